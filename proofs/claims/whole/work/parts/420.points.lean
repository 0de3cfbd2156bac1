theorem in_X6_copyPoint_X6 : ∀ w ∈ wsX60, w ∈ wsX6_copyPoint := by decide +kernel
/-- one number is written; what lies behind is scratch -/
def UN (N N' : Nat → Nat) (to v : Nat) : Prop := N' to = v ∧ ∀ k, k ≠ to → (k < 9 ∨ 13 < k) → N' k = N k
theorem UN.k {N N' : Nat → Nat} {to v k x : Nat} (h : UN N N' to v) (hk : N k = x) (h1 : k ≠ to) (h2 : k < 9 ∨ 13 < k) : N' k = x := by rw [h.2 k h1 h2]; exact hk
theorem UN.mk1 {N : Nat → Nat} {to v : Nat} : UN N (un N to v) to v := ⟨un_s, fun k h1 _ => un_n h1⟩
theorem UN.mk9 {N : Nat → Nat} {to v z : Nat} (h : to < 9 ∨ 13 < to) : UN N (un (un N 9 z) to v) to v := ⟨un_s, fun k h1 h2 => by rw [un_n h1, un_n (by omega)]⟩
section NM8
variable {p : Program} {l : Launch} {e : Env} {R : Room} {s : State} {m : MethodId} {args : Array Value} {below : List Frame} {meth : Method} {c : Code} {Q : State → Prop} {cells slots : Nat} {ret : Option FieldType} {D : va_G} {kA : Nat → ClassId} {N0 : Nat}
theorem c6_timesV (l : Launch) (D : va_G) (kA : Nat → ClassId) (N0 : Nat) (M0 M : xM) (g to n k t x y z : Nat) (B : Int32 × Int32 × Int32 × Int32) (N : Nat → Nat) (hm : MN kA M0 M g B N) (hto : to < 30) (hn : n < 30) (hk : k < 30) (ht : t < 30) (hx : N n = x) (hy : N k = y) (hz : N t = z) (hpos : 0 < z) (_h9 : to < 9 ∨ 13 < to) : cV l yX6_times wsX6_times (xR 3) [.ref g, .int (nI to), .int (nI n), .int (nI k), .int (nI t)] D kA N0 M (fun M1 => ∃ N', MN kA M0 M1 g B N' ∧ UN N N' to (x * y % z)) := by
  subst hx hy hz
  exact cV.mono (c6_times l D kA N0 M0 M g to n k t B N hm hto hn hk ht hpos) (fun M1 h => ⟨_, h, UN.mk1⟩)
theorem c6_restV (l : Launch) (D : va_G) (kA : Nat → ClassId) (N0 : Nat) (M0 M : xM) (g to n t x z : Nat) (B : Int32 × Int32 × Int32 × Int32) (N : Nat → Nat) (hm : MN kA M0 M g B N) (hto : to < 30) (hn : n < 30) (ht : t < 30) (hx : N n = x) (hz : N t = z) (hpos : 0 < z) (_h9 : to < 9 ∨ 13 < to) : cV l yX6_rest wsX6_rest (xR 3) [.ref g, .int (nI to), .int (nI n), .int (nI t)] D kA N0 M (fun M1 => ∃ N', MN kA M0 M1 g B N' ∧ UN N N' to (x % z)) := by
  subst hx hz
  exact cV.mono (c6_rest l D kA N0 M0 M g to n t B N hm hto hn ht hpos) (fun M1 h => ⟨_, h, UN.mk1⟩)
theorem c6_sumV (l : Launch) (D : va_G) (kA : Nat → ClassId) (N0 : Nat) (M0 M : xM) (g to n k t x y z : Nat) (B : Int32 × Int32 × Int32 × Int32) (N : Nat → Nat) (hm : MN kA M0 M g B N) (hto : to < 30) (hn : n < 30) (hk : k < 30) (ht : t < 30) (hx : N n = x) (hy : N k = y) (hz : N t = z) (hne : to ≠ t) (h1 : x < z) (h2 : y < z) (h3 : z < BB ^ 9) (_h9 : to < 9 ∨ 13 < to) : cV l yX6_sum wsX6_sum (xR 2) [.ref g, .int (nI to), .int (nI n), .int (nI k), .int (nI t)] D kA N0 M (fun M1 => ∃ N', MN kA M0 M1 g B N' ∧ UN N N' to ((x + y) % z)) := by
  subst hx hy hz
  exact cV.mono (c6_sum l D kA N0 M0 M g to n k t B N hm hto hn hk ht hne h1 h2 h3) (fun M1 h => ⟨_, h, UN.mk1⟩)
theorem c6_differenceV (l : Launch) (D : va_G) (kA : Nat → ClassId) (N0 : Nat) (M0 M : xM) (g to n k t x y z : Nat) (B : Int32 × Int32 × Int32 × Int32) (N : Nat → Nat) (hm : MN kA M0 M g B N) (hto : to < 30) (hn : n < 30) (hk : k < 30) (ht : t < 30) (hx : N n = x) (hy : N k = y) (hz : N t = z) (hk9 : k ≠ 9) (hto9 : to < 9 ∨ 13 < to) (h1 : x < z) (h2 : y < z) (h3 : z < BB ^ 9) (_h9 : to < 9 ∨ 13 < to) : cV l yX6_difference wsX6_difference (xR 2) [.ref g, .int (nI to), .int (nI n), .int (nI k), .int (nI t)] D kA N0 M (fun M1 => ∃ N', MN kA M0 M1 g B N' ∧ UN N N' to ((x + (z - y)) % z)) := by
  subst hx hy hz
  exact cV.mono (c6_difference l D kA N0 M0 M g to n k t B N hm hto hn hk ht hk9 h1 h2 h3) (fun M1 h => by obtain ⟨q, h⟩ := h; exact ⟨_, h, UN.mk9 hto9⟩)
theorem c6_copyV (l : Launch) (D : va_G) (kA : Nat → ClassId) (N0 : Nat) (M0 M : xM) (g to n x : Nat) (B : Int32 × Int32 × Int32 × Int32) (N : Nat → Nat) (hm : MN kA M0 M g B N) (hto : to < 30) (hn : n < 30) (hx : N n = x) (_h9 : to < 9 ∨ 13 < to) : cV l yX6_copy wsX6_copy (xR 1) [.ref g, .int (nI to), .int (nI n)] D kA N0 M (fun M1 => ∃ N', MN kA M0 M1 g B N' ∧ UN N N' to x) := by
  subst hx
  exact cV.mono (c6_copy l D kA N0 M0 M g to n B N hm hto hn) (fun M1 h => ⟨_, h, UN.mk1⟩)
theorem c6_smallV (l : Launch) (D : va_G) (kA : Nat → ClassId) (N0 : Nat) (M0 M : xM) (g to v : Nat) (B : Int32 × Int32 × Int32 × Int32) (N : Nat → Nat) (hm : MN kA M0 M g B N) (hto : to < 30) (hv : v < 1000) (_h9 : to < 9 ∨ 13 < to) : cV l yX6_small wsX6_small (xR 1) [.ref g, .int (nI to), .int (nI v)] D kA N0 M (fun M1 => ∃ N', MN kA M0 M1 g B N' ∧ UN N N' to v) := cV.mono (c6_small l D kA N0 M0 M g to v B N hm hto hv) (fun M1 h => ⟨_, h, UN.mk1⟩)
theorem c6_x (l : Launch) (D : va_G) (kA : Nat → ClassId) (N0 : Nat) (M : xM) (a : Nat) (ha : a < 5) : cI l yX6_x wsX6_x (xR 0) [.int (nI a)] D kA N0 M (fun r M1 => r = nI (20 + 2 * a) ∧ M1 = M) := by
  refine r_mI (cc := cX6_x) (maxL := 1) (by decide) rfl (Nat.le_of_ble_eq_true rfl) ?_
  intro p e s m below meth c ls A0 Qp C hM hnm hl hend
  obtain ⟨hx, hb, hml, hown, hts, hr, hlocks, hK, hN⟩ := _root_.id C
  have hS : va_S (xA N0) s.heap s.heap [] := va_S.rf
  have hl : lv_has ls 1 [(0, .int (nI a))] := hl
  refine lv_bipush (v := nI 20) hx hb dX6_x_0 (by decide) ?_
  refine lv_iconst (v := nI 2) hx hb dX6_x_2 (by decide) ?_
  refine lv_iload_n hx hb dX6_x_3 rfl (lv_at hl 0 rfl) ?_
  refine r_imulN C dX6_x_4 ?_
  refine r_iaddN C dX6_x_5 ?_
  exact hend _ _ _ _ _ _ hM hS (⟨rfl, rfl⟩) dX6_x_6
theorem c6_y (l : Launch) (D : va_G) (kA : Nat → ClassId) (N0 : Nat) (M : xM) (a : Nat) (ha : a < 5) : cI l yX6_y wsX6_y (xR 0) [.int (nI a)] D kA N0 M (fun r M1 => r = nI (20 + 2 * a + 1) ∧ M1 = M) := by
  refine r_mI (cc := cX6_y) (maxL := 1) (by decide) rfl (Nat.le_of_ble_eq_true rfl) ?_
  intro p e s m below meth c ls A0 Qp C hM hnm hl hend
  obtain ⟨hx, hb, hml, hown, hts, hr, hlocks, hK, hN⟩ := _root_.id C
  have hS : va_S (xA N0) s.heap s.heap [] := va_S.rf
  have hl : lv_has ls 1 [(0, .int (nI a))] := hl
  refine lv_bipush (v := nI 20) hx hb dX6_y_0 (by decide) ?_
  refine lv_iconst (v := nI 2) hx hb dX6_y_2 (by decide) ?_
  refine lv_iload_n hx hb dX6_y_3 rfl (lv_at hl 0 rfl) ?_
  refine r_imulN C dX6_y_4 ?_
  refine r_iaddN C dX6_y_5 ?_
  refine lv_iconst (v := nI 1) hx hb dX6_y_6 (by decide) ?_
  refine r_iaddN C dX6_y_7 ?_
  exact hend _ _ _ _ _ _ hM hS (⟨rfl, rfl⟩) dX6_y_8
end NM8
/-- the model's state with its five points -/
def MZ (kA : Nat → ClassId) (M0 M : xM) (g : Nat) (B : Int32 × Int32 × Int32 × Int32) (N : Nat → Nat) (Z : Nat → Int32) : Prop := ∃ M00, MN kA M00 M g B N ∧ M00 (g + 4) = some (xI (kA 1) 5 Z) ∧ ∀ b, b ≠ g + 4 → M00 b = M0 b
section MZS
variable {kA : Nat → ClassId} {M00 M0 M : xM} {g : Nat} {B : Int32 × Int32 × Int32 × Int32} {N : Nat → Nat} {Z : Nat → Int32}
theorem MN.z4 (h : MN kA M00 M g B N) (E : va_E) : MN kA (xset M00 (g + 4) E) (xset M (g + 4) E) g B N := by
  obtain ⟨⟨us, h1⟩, ⟨F, h2, h3⟩, ⟨u, h4⟩, ⟨v, h5⟩, ⟨q, h6⟩, h7⟩ := h
  refine ⟨⟨us, by rw [xset_n (by omega)]; exact h1⟩, ⟨F, by rw [xset_n (by omega)]; exact h2, h3⟩, ⟨u, by rw [xset_n (by omega)]; exact h4⟩, ⟨v, by rw [xset_n (by omega)]; exact h5⟩, ⟨q, by rw [xset_n (by omega)]; exact h6⟩, fun b b1 b2 b3 b4 b5 => ?_⟩
  by_cases q : b = g + 4
  · rw [q, xset_s, xset_s]
  · rw [xset_n q, xset_n q]
    exact h7 b b1 b2 b3 b4 b5
theorem MN.at4 (h : MN kA M00 M g B N) {b : Nat} (b1 : b ≠ g) (b2 : b ≠ g + 3) (b3 : b ≠ g + 5) (b4 : b ≠ g + 6) (b5 : b ≠ g + 7) : M b = M00 b := h.2.2.2.2.2 b b1 b2 b3 b4 b5
theorem MZ.ob (h : MZ kA M0 M g B N Z) : ∃ us, M g = some (oMd g B us) := by
  obtain ⟨M00, hm, -, -⟩ := h
  exact hm.1
theorem MZ.z (h : MZ kA M0 M g B N Z) : M (g + 4) = some (xI (kA 1) 5 Z) := by
  obtain ⟨M00, hm, hz, -⟩ := h
  rw [hm.at4 (by omega) (by omega) (by omega) (by omega) (by omega)]
  exact hz
theorem MZ.fr (h : MZ kA M0 M g B N Z) {b : Nat} (b0 : b < g ∨ g + 7 < b ∨ b = g + 1 ∨ b = g + 2) : M b = M0 b := by
  obtain ⟨M00, hm, -, h3⟩ := h
  rw [hm.at4 (by omega) (by omega) (by omega) (by omega) (by omega), h3 b (by omega)]
theorem MZ.setz (h : MZ kA M0 M g B N Z) (Z' : Nat → Int32) : MZ kA M0 (xset M (g + 4) (xI (kA 1) 5 Z')) g B N Z' := by
  obtain ⟨M00, hm, hz, h3⟩ := h
  refine ⟨_, hm.z4 _, xset_s, fun b hb => ?_⟩
  rw [xset_n hb]
  exact h3 b hb
end MZS
/-- the point i of the five -/
def PV (k : Nat) (N : Nat → Nat) (Z : Nat → Int32) (i : Nat) (P : Pt k) : Prop := (Z i = 1 ∧ P = none) ∨ (Z i = 0 ∧ N (20 + 2 * i) < k + 1 ∧ N (20 + 2 * i + 1) < k + 1 ∧ P = some (fz k (N (20 + 2 * i)), fz k (N (20 + 2 * i + 1))))
theorem PV.z {k : Nat} {N : Nat → Nat} {Z : Nat → Int32} {i : Nat} {P : Pt k} (h : PV k N Z i P) : Z i = 0 ∨ Z i = 1 := by
  rcases h with ⟨h, -⟩ | ⟨h, -⟩
  · exact Or.inr h
  · exact Or.inl h
theorem PV.cg {k : Nat} {N N' : Nat → Nat} {Z Z' : Nat → Int32} {i : Nat} {P : Pt k} (h : PV k N Z i P) (h1 : N' (20 + 2 * i) = N (20 + 2 * i)) (h2 : N' (20 + 2 * i + 1) = N (20 + 2 * i + 1)) (h3 : Z' i = Z i) : PV k N' Z' i P := by
  unfold PV at *
  rw [h1, h2, h3]
  exact h
section NM9
variable {p : Program} {l : Launch} {e : Env} {R : Room} {s : State} {m : MethodId} {args : Array Value} {below : List Frame} {meth : Method} {c : Code} {Q : State → Prop} {cells slots : Nat} {ret : Option FieldType} {D : va_G} {kA : Nat → ClassId} {N0 : Nat}
set_option maxRecDepth 100000 in
theorem c6_copyPoint (l : Launch) (D : va_G) (kA : Nat → ClassId) (N0 : Nat) (M0 M : xM) (g to a : Nat) (B : Int32 × Int32 × Int32 × Int32) (N : Nat → Nat) (Z : Nat → Int32) (hz : MZ kA M0 M g B N Z) (hto : to < 5) (ha : a < 5) (hza : Z a = 0 ∨ Z a = 1) : cV l yX6_copyPoint wsX6_copyPoint (xR 2) [.ref g, .int (nI to), .int (nI a)] D kA N0 M (fun M1 => ∃ N', MZ kA M0 M1 g B N' (upd Z to (Z a)) ∧ N' (20 + 2 * to) = N (20 + 2 * a) ∧ N' (20 + 2 * to + 1) = N (20 + 2 * a + 1) ∧ ∀ j, (j < 9 ∨ (13 < j ∧ j ≠ 20 + 2 * to ∧ j ≠ 20 + 2 * to + 1)) → N' j = N j) := by
  obtain ⟨us, hob⟩ := hz.ob
  have hz4 := hz.z
  refine r_mV (cc := cX6_copyPoint) (maxL := 3) (by decide) rfl (Nat.le_of_ble_eq_true rfl) ?_
  intro p e s m below meth c ls A0 Qp C hM hnm hl hend
  obtain ⟨hx, hb, hml, hown, hts, hr, hlocks, hK, hN⟩ := _root_.id C
  have hS : va_S (xA N0) s.heap s.heap [] := va_S.rf
  have hl : lv_has ls 3 [(0, .ref g), (1, .int (nI to)), (2, .int (nI a))] := hl
  refine lv_aload_n hx hb dX6_copyPoint_0 rfl (lv_at hl 0 rfl) ?_
  refine x_get (v := .ref (g + 4)) hx hb hts in_X6_copyPoint_X6 hown hK hM (hob) rfl 7 (by decide) (hts (.fieldLink RX6 24 "LimbCurvesModel" "isNothing" "[Z") (by decide +kernel)) (fun _ h9 => h9) rfl dX6_copyPoint_1 ?_
  refine lv_iload_n hx hb dX6_copyPoint_4 rfl (lv_at hl 1 rfl) ?_
  refine lv_aload_n hx hb dX6_copyPoint_5 rfl (lv_at hl 0 rfl) ?_
  refine x_get (v := .ref (g + 4)) hx hb hts in_X6_copyPoint_X6 hown hK hM (hob) rfl 7 (by decide) (hts (.fieldLink RX6 24 "LimbCurvesModel" "isNothing" "[Z") (by decide +kernel)) (fun _ h9 => h9) rfl dX6_copyPoint_6 ?_
  refine lv_iload_n hx hb dX6_copyPoint_9 rfl (lv_at hl 2 rfl) ?_
  refine r_zald C hM (hz4) rfl (by omega) (by omega) dX6_copyPoint_10 ?_
  have hza2 : vp_nar .boolean (Z a) = Z a := by rcases hza with q9 | q9 <;> rw [q9] <;> rfl
  refine r_zast C hM hS (hz4) rfl (by omega) (by omega) hza2 dX6_copyPoint_11 (fun H locs hM hS => ?_)
  have hz := hz.setz (upd Z to (Z a))
  obtain ⟨M00, hm, hz4, hf0⟩ := hz
  have hfr : ∀ j, (j < 9 ∨ (13 < j ∧ j ≠ 20 + 2 * to ∧ j ≠ 20 + 2 * to + 1)) → N j = N j := fun _ _ => rfl
  obtain ⟨X, eX⟩ : ∃ q, N (20 + 2 * a) = q := ⟨_, rfl⟩
  obtain ⟨Y, eY⟩ : ∃ q, N (20 + 2 * a + 1) = q := ⟨_, rfl⟩
  rw [eX, eY] at hend
  by_cases hta : to = a
  · subst hta
    refine lv_aload_n hx hb dX6_copyPoint_12 rfl (lv_at hl 0 rfl) ?_
    refine lv_iload_n hx hb dX6_copyPoint_13 rfl (lv_at hl 1 rfl) ?_
    refine r_Si (As := [.int (nI to)]) (rest := [.ref g]) C hM hS (c6_x l D kA N0 _ to (by omega)) gX6_copyPoint_X6_x rfl rfl rfl ⟨by decide +kernel, by decide +kernel, (by decide +kernel : (parseMethodDescriptor yX6_x.desc).map (fun d => d.parameters.length) = some 1)⟩ ⟨Nat.le_of_ble_eq_true rfl, Nat.le_of_ble_eq_true rfl⟩ hl.1 rfl (Nat.le_of_ble_eq_true rfl) dX6_copyPoint_14 ⟨Nat.le_of_ble_eq_true rfl, Nat.le_of_ble_eq_true rfl⟩ (fun r9 M9 H locs hp9 hM hS => ?_)
    obtain ⟨er9, eM9⟩ := hp9
    rw [eM9] at hM
    rw [er9]
    refine lv_iload_n hx hb dX6_copyPoint_17 rfl (lv_at hl 2 rfl) ?_
    refine r_Si (As := [.int (nI to)]) (rest := [.int (nI (20 + 2 * to)), .ref g]) C hM hS (c6_x l D kA N0 _ to (by omega)) gX6_copyPoint_X6_x rfl rfl rfl ⟨by decide +kernel, by decide +kernel, (by decide +kernel : (parseMethodDescriptor yX6_x.desc).map (fun d => d.parameters.length) = some 1)⟩ ⟨Nat.le_of_ble_eq_true rfl, Nat.le_of_ble_eq_true rfl⟩ hl.1 rfl (Nat.le_of_ble_eq_true rfl) dX6_copyPoint_18 ⟨Nat.le_of_ble_eq_true rfl, Nat.le_of_ble_eq_true rfl⟩ (fun r9 M9 H locs hp9 hM hS => ?_)
    obtain ⟨er9, eM9⟩ := hp9
    rw [eM9] at hM
    rw [er9]
    obtain ⟨us9, hob9⟩ := hm.1
    refine r_Vv (As := [.int (nI (20 + 2 * to)), .int (nI (20 + 2 * to))]) (rest := []) C hM hS (c6_copyV l D kA N0 _ _ g (20 + 2 * to) (20 + 2 * to) X B _ hm (by omega) (by omega) eX (by omega)) (hob9) rfl gX6_copyPoint_X6_copy rfl rfl rfl ⟨rfl, by decide +kernel, by decide +kernel, (by decide +kernel : (parseMethodDescriptor yX6_copy.desc).map (fun d => d.parameters.length) = some 2)⟩ ⟨Nat.le_of_ble_eq_true rfl, Nat.le_of_ble_eq_true rfl⟩ hl.1 rfl (Nat.le_of_ble_eq_true rfl) dX6_copyPoint_21 ⟨Nat.le_of_ble_eq_true rfl, Nat.le_of_ble_eq_true rfl⟩ (fun M1 H locs hp9 hM hS => ?_)
    obtain ⟨N9, hm, un9⟩ := hp9
    obtain ⟨w1, ew1⟩ : ∃ q, q = X := ⟨_, rfl⟩
    rw [← ew1] at un9
    have n_w1 := un9.1
    have eY := un9.k eY (by omega) (by omega)
    have hfr : ∀ j, (j < 9 ∨ (13 < j ∧ j ≠ 20 + 2 * to ∧ j ≠ 20 + 2 * to + 1)) → N9 j = N j := fun j hj => un9.k (hfr j hj) (by omega) (by omega)
    refine lv_aload_n hx hb dX6_copyPoint_24 rfl (lv_at hl 0 rfl) ?_
    refine lv_iload_n hx hb dX6_copyPoint_25 rfl (lv_at hl 1 rfl) ?_
    refine r_Si (As := [.int (nI to)]) (rest := [.ref g]) C hM hS (c6_y l D kA N0 _ to (by omega)) gX6_copyPoint_X6_y rfl rfl rfl ⟨by decide +kernel, by decide +kernel, (by decide +kernel : (parseMethodDescriptor yX6_y.desc).map (fun d => d.parameters.length) = some 1)⟩ ⟨Nat.le_of_ble_eq_true rfl, Nat.le_of_ble_eq_true rfl⟩ hl.1 rfl (Nat.le_of_ble_eq_true rfl) dX6_copyPoint_26 ⟨Nat.le_of_ble_eq_true rfl, Nat.le_of_ble_eq_true rfl⟩ (fun r9 M9 H locs hp9 hM hS => ?_)
    obtain ⟨er9, eM9⟩ := hp9
    rw [eM9] at hM
    rw [er9]
    refine lv_iload_n hx hb dX6_copyPoint_29 rfl (lv_at hl 2 rfl) ?_
    refine r_Si (As := [.int (nI to)]) (rest := [.int (nI (20 + 2 * to + 1)), .ref g]) C hM hS (c6_y l D kA N0 _ to (by omega)) gX6_copyPoint_X6_y rfl rfl rfl ⟨by decide +kernel, by decide +kernel, (by decide +kernel : (parseMethodDescriptor yX6_y.desc).map (fun d => d.parameters.length) = some 1)⟩ ⟨Nat.le_of_ble_eq_true rfl, Nat.le_of_ble_eq_true rfl⟩ hl.1 rfl (Nat.le_of_ble_eq_true rfl) dX6_copyPoint_30 ⟨Nat.le_of_ble_eq_true rfl, Nat.le_of_ble_eq_true rfl⟩ (fun r9 M9 H locs hp9 hM hS => ?_)
    obtain ⟨er9, eM9⟩ := hp9
    rw [eM9] at hM
    rw [er9]
    obtain ⟨us9, hob9⟩ := hm.1
    refine r_Vv (As := [.int (nI (20 + 2 * to + 1)), .int (nI (20 + 2 * to + 1))]) (rest := []) C hM hS (c6_copyV l D kA N0 _ _ g (20 + 2 * to + 1) (20 + 2 * to + 1) Y B _ hm (by omega) (by omega) eY (by omega)) (hob9) rfl gX6_copyPoint_X6_copy rfl rfl rfl ⟨rfl, by decide +kernel, by decide +kernel, (by decide +kernel : (parseMethodDescriptor yX6_copy.desc).map (fun d => d.parameters.length) = some 2)⟩ ⟨Nat.le_of_ble_eq_true rfl, Nat.le_of_ble_eq_true rfl⟩ hl.1 rfl (Nat.le_of_ble_eq_true rfl) dX6_copyPoint_33 ⟨Nat.le_of_ble_eq_true rfl, Nat.le_of_ble_eq_true rfl⟩ (fun M1 H locs hp9 hM hS => ?_)
    obtain ⟨N9, hm, un9⟩ := hp9
    obtain ⟨w2, ew2⟩ : ∃ q, q = Y := ⟨_, rfl⟩
    rw [← ew2] at un9
    have n_w2 := un9.1
    have n_w1 := un9.k n_w1 (by omega) (by omega)
    have hfr : ∀ j, (j < 9 ∨ (13 < j ∧ j ≠ 20 + 2 * to ∧ j ≠ 20 + 2 * to + 1)) → N9 j = N j := fun j hj => un9.k (hfr j hj) (by omega) (by omega)
    exact hend _ _ _ _ _ hM hS (⟨_, ⟨M00, hm, hz4, hf0⟩, by rw [n_w1, ew1], by rw [n_w2, ew2], hfr⟩) dX6_copyPoint_36
  · refine lv_aload_n hx hb dX6_copyPoint_12 rfl (lv_at hl 0 rfl) ?_
    refine lv_iload_n hx hb dX6_copyPoint_13 rfl (lv_at hl 1 rfl) ?_
    refine r_Si (As := [.int (nI to)]) (rest := [.ref g]) C hM hS (c6_x l D kA N0 _ to (by omega)) gX6_copyPoint_X6_x rfl rfl rfl ⟨by decide +kernel, by decide +kernel, (by decide +kernel : (parseMethodDescriptor yX6_x.desc).map (fun d => d.parameters.length) = some 1)⟩ ⟨Nat.le_of_ble_eq_true rfl, Nat.le_of_ble_eq_true rfl⟩ hl.1 rfl (Nat.le_of_ble_eq_true rfl) dX6_copyPoint_14 ⟨Nat.le_of_ble_eq_true rfl, Nat.le_of_ble_eq_true rfl⟩ (fun r9 M9 H locs hp9 hM hS => ?_)
    obtain ⟨er9, eM9⟩ := hp9
    rw [eM9] at hM
    rw [er9]
    refine lv_iload_n hx hb dX6_copyPoint_17 rfl (lv_at hl 2 rfl) ?_
    refine r_Si (As := [.int (nI a)]) (rest := [.int (nI (20 + 2 * to)), .ref g]) C hM hS (c6_x l D kA N0 _ a (by omega)) gX6_copyPoint_X6_x rfl rfl rfl ⟨by decide +kernel, by decide +kernel, (by decide +kernel : (parseMethodDescriptor yX6_x.desc).map (fun d => d.parameters.length) = some 1)⟩ ⟨Nat.le_of_ble_eq_true rfl, Nat.le_of_ble_eq_true rfl⟩ hl.1 rfl (Nat.le_of_ble_eq_true rfl) dX6_copyPoint_18 ⟨Nat.le_of_ble_eq_true rfl, Nat.le_of_ble_eq_true rfl⟩ (fun r9 M9 H locs hp9 hM hS => ?_)
    obtain ⟨er9, eM9⟩ := hp9
    rw [eM9] at hM
    rw [er9]
    obtain ⟨us9, hob9⟩ := hm.1
    refine r_Vv (As := [.int (nI (20 + 2 * to)), .int (nI (20 + 2 * a))]) (rest := []) C hM hS (c6_copyV l D kA N0 _ _ g (20 + 2 * to) (20 + 2 * a) X B _ hm (by omega) (by omega) eX (by omega)) (hob9) rfl gX6_copyPoint_X6_copy rfl rfl rfl ⟨rfl, by decide +kernel, by decide +kernel, (by decide +kernel : (parseMethodDescriptor yX6_copy.desc).map (fun d => d.parameters.length) = some 2)⟩ ⟨Nat.le_of_ble_eq_true rfl, Nat.le_of_ble_eq_true rfl⟩ hl.1 rfl (Nat.le_of_ble_eq_true rfl) dX6_copyPoint_21 ⟨Nat.le_of_ble_eq_true rfl, Nat.le_of_ble_eq_true rfl⟩ (fun M1 H locs hp9 hM hS => ?_)
    obtain ⟨N9, hm, un9⟩ := hp9
    obtain ⟨w1, ew1⟩ : ∃ q, q = X := ⟨_, rfl⟩
    rw [← ew1] at un9
    have n_w1 := un9.1
    have eX := un9.k eX (by omega) (by omega)
    have eY := un9.k eY (by omega) (by omega)
    have hfr : ∀ j, (j < 9 ∨ (13 < j ∧ j ≠ 20 + 2 * to ∧ j ≠ 20 + 2 * to + 1)) → N9 j = N j := fun j hj => un9.k (hfr j hj) (by omega) (by omega)
    refine lv_aload_n hx hb dX6_copyPoint_24 rfl (lv_at hl 0 rfl) ?_
    refine lv_iload_n hx hb dX6_copyPoint_25 rfl (lv_at hl 1 rfl) ?_
    refine r_Si (As := [.int (nI to)]) (rest := [.ref g]) C hM hS (c6_y l D kA N0 _ to (by omega)) gX6_copyPoint_X6_y rfl rfl rfl ⟨by decide +kernel, by decide +kernel, (by decide +kernel : (parseMethodDescriptor yX6_y.desc).map (fun d => d.parameters.length) = some 1)⟩ ⟨Nat.le_of_ble_eq_true rfl, Nat.le_of_ble_eq_true rfl⟩ hl.1 rfl (Nat.le_of_ble_eq_true rfl) dX6_copyPoint_26 ⟨Nat.le_of_ble_eq_true rfl, Nat.le_of_ble_eq_true rfl⟩ (fun r9 M9 H locs hp9 hM hS => ?_)
    obtain ⟨er9, eM9⟩ := hp9
    rw [eM9] at hM
    rw [er9]
    refine lv_iload_n hx hb dX6_copyPoint_29 rfl (lv_at hl 2 rfl) ?_
    refine r_Si (As := [.int (nI a)]) (rest := [.int (nI (20 + 2 * to + 1)), .ref g]) C hM hS (c6_y l D kA N0 _ a (by omega)) gX6_copyPoint_X6_y rfl rfl rfl ⟨by decide +kernel, by decide +kernel, (by decide +kernel : (parseMethodDescriptor yX6_y.desc).map (fun d => d.parameters.length) = some 1)⟩ ⟨Nat.le_of_ble_eq_true rfl, Nat.le_of_ble_eq_true rfl⟩ hl.1 rfl (Nat.le_of_ble_eq_true rfl) dX6_copyPoint_30 ⟨Nat.le_of_ble_eq_true rfl, Nat.le_of_ble_eq_true rfl⟩ (fun r9 M9 H locs hp9 hM hS => ?_)
    obtain ⟨er9, eM9⟩ := hp9
    rw [eM9] at hM
    rw [er9]
    obtain ⟨us9, hob9⟩ := hm.1
    refine r_Vv (As := [.int (nI (20 + 2 * to + 1)), .int (nI (20 + 2 * a + 1))]) (rest := []) C hM hS (c6_copyV l D kA N0 _ _ g (20 + 2 * to + 1) (20 + 2 * a + 1) Y B _ hm (by omega) (by omega) eY (by omega)) (hob9) rfl gX6_copyPoint_X6_copy rfl rfl rfl ⟨rfl, by decide +kernel, by decide +kernel, (by decide +kernel : (parseMethodDescriptor yX6_copy.desc).map (fun d => d.parameters.length) = some 2)⟩ ⟨Nat.le_of_ble_eq_true rfl, Nat.le_of_ble_eq_true rfl⟩ hl.1 rfl (Nat.le_of_ble_eq_true rfl) dX6_copyPoint_33 ⟨Nat.le_of_ble_eq_true rfl, Nat.le_of_ble_eq_true rfl⟩ (fun M1 H locs hp9 hM hS => ?_)
    obtain ⟨N9, hm, un9⟩ := hp9
    obtain ⟨w2, ew2⟩ : ∃ q, q = Y := ⟨_, rfl⟩
    rw [← ew2] at un9
    have n_w2 := un9.1
    have eX := un9.k eX (by omega) (by omega)
    have eY := un9.k eY (by omega) (by omega)
    have n_w1 := un9.k n_w1 (by omega) (by omega)
    have hfr : ∀ j, (j < 9 ∨ (13 < j ∧ j ≠ 20 + 2 * to ∧ j ≠ 20 + 2 * to + 1)) → N9 j = N j := fun j hj => un9.k (hfr j hj) (by omega) (by omega)
    exact hend _ _ _ _ _ hM hS (⟨_, ⟨M00, hm, hz4, hf0⟩, by rw [n_w1, ew1], by rw [n_w2, ew2], hfr⟩) dX6_copyPoint_36
end NM9
