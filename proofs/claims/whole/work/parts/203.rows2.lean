section N3
variable {p : Program} {l : Launch} {e : Env} {R : Room} {s : State} {m : MethodId} {args : Array Value} {below : List Frame} {meth : Method} {c : Code} {Q : State → Prop} {cells slots : Nat} {ret : Option FieldType} {D : va_G} {kA : Nat → ClassId} {N0 : Nat} {H : Heap} {locs : List Loc}
set_option maxRecDepth 100000 in
theorem c_set (l : Launch) (D : va_G) (kA : Nat → ClassId) (N0 : Nat) (M : xM) (row n : Nat) (f0 : Nat → Int32) (v : Int32) (ha : M row = some (xI (kA 0) n f0)) (h0 : 0 < n) (hn : n < 2 ^ 31) : cV l yX1_set wsX1_set (xR 1) [.ref row, .int v] D kA N0 M (fun M1 => ∃ f, M1 = xset M row (xI (kA 0) n f) ∧ f 0 = v ∧ ∀ j, 0 < j → j < n → f j = 0) := by
  refine r_met (cc := cX1_set) (maxL := 2) (ret := none) (by decide) rfl (Nat.le_of_ble_eq_true rfl) ?_
  intro p e s m below meth c ls C hM hnm hl
  obtain ⟨hx, hb, hml, hown, hts, hr, hlocks, hK, hN⟩ := id C
  have hS : va_S (xA N0) s.heap s.heap [] := va_S.rf
  have hl : lv_has ls 2 [(0, .ref row), (1, .int v)] := hl
  refine lv_aload_n hx hb dX1_set_0 rfl (lv_at hl 0 rfl) ?_
  refine lv_iconst (v := nI 0) hx hb dX1_set_1 (by decide) ?_
  refine r_Sv (As := [.ref row, .int (nI 0)]) (rest := []) C hM hS (c_fill l D kA N0 M row n f0 (nI 0) ha hn) gX1_set_J7_fill_53178 rfl rfl rfl ⟨by decide +kernel, by decide +kernel, (by decide +kernel : (parseMethodDescriptor yJ7_fill_53178.desc).map (fun d => d.parameters.length) = some 2)⟩ ⟨Nat.le_of_ble_eq_true rfl, Nat.le_of_ble_eq_true rfl⟩ hl.1 rfl (Nat.le_of_ble_eq_true rfl) dX1_set_2 ⟨Nat.le_of_ble_eq_true rfl, Nat.le_of_ble_eq_true rfl⟩ (fun M1 H locs hp hM hS => ?_)
  obtain ⟨f, rfl, hf⟩ := hp
  refine lv_aload_n hx hb dX1_set_5 rfl (lv_at hl 0 rfl) ?_
  refine lv_iconst (v := nI 0) hx hb dX1_set_6 (by decide) ?_
  refine lv_iload_n hx hb dX1_set_7 rfl (lv_at hl 1 rfl) ?_
  refine r_iast C hM hS (xset_s) rfl (by omega) (by omega) dX1_set_8 (fun H locs hM hS => ?_)
  rw [xset_xset] at hM
  exact r_vret C hM hS (⟨upd f 0 v, rfl, pk_us, fun j h1 h2 => by rw [pk_un (by omega)]; exact hf j h2⟩) dX1_set_9
set_option maxRecDepth 100000 in
theorem c_copy (l : Launch) (D : va_G) (kA : Nat → ClassId) (N0 : Nat) (M : xM) (to frm n : Nat) (f g : Nat → Int32) (ha : M to = some (xI (kA 0) n f)) (hg : M frm = some (xI (kA 0) n g)) (hn : n < 2 ^ 31) : cV l yX1_copy wsX1_copy (xR 1) [.ref to, .ref frm] D kA N0 M (fun M1 => ∃ f', M1 = xset M to (xI (kA 0) n f') ∧ ∀ j, j < n → f' j = g j) := by
  refine r_met (cc := cX1_copy) (maxL := 2) (ret := none) (by decide) rfl (Nat.le_of_ble_eq_true rfl) ?_
  intro p e s m below meth c ls C hM hnm hl
  obtain ⟨hx, hb, hml, hown, hts, hr, hlocks, hK, hN⟩ := id C
  have hS : va_S (xA N0) s.heap s.heap [] := va_S.rf
  have hl : lv_has ls 2 [(0, .ref to), (1, .ref frm)] := hl
  refine lv_aload_n hx hb dX1_copy_0 rfl (lv_at hl 1 rfl) ?_
  refine lv_iconst (v := nI 0) hx hb dX1_copy_1 (by decide) ?_
  refine lv_aload_n hx hb dX1_copy_2 rfl (lv_at hl 0 rfl) ?_
  refine lv_iconst (v := nI 0) hx hb dX1_copy_3 (by decide) ?_
  refine lv_aload_n hx hb dX1_copy_4 rfl (lv_at hl 0 rfl) ?_
  refine r_alen C hM (ha) rfl dX1_copy_5 ?_
  refine r_copy (rest := []) C hM hS (hg) (ha) rfl (by omega) (by omega) (by omega) (by omega) (hts (.methodLink RX1 15 arraycopyName) (by decide +kernel)) (hts (.native arraycopyName) (by decide +kernel)) (hts (.static arraycopyName) (by decide +kernel)) (hts (.initialized "java/lang/System") (by decide +kernel)) hl.1 (Nat.le_of_ble_eq_true rfl) (by decide) dX1_copy_6 (fun H locs hM hS => ?_)
  exact r_vret C hM hS (⟨_, rfl, fun j hj => by rw [pk_cpy_in (by omega) (by omega)]; simp⟩) dX1_copy_9
/-- what sizeOf tells of the number -/
theorem size_V {f : Nat → Int32} {n k : Nat} (nf : nn f n) (hk : k ≤ n) (hz : ∀ j, k ≤ j → j < n → f j = 0) (hp : 0 < k → f (k - 1) ≠ 0) : (k = 0 ↔ V f n = 0) ∧ (0 < k → 0 < dg (f (k - 1))) := by
  have ht : 0 < k → 0 < dg (f (k - 1)) := by
    intro h
    have h1 := nn_dg nf (show k - 1 < n by omega)
    rcases Nat.eq_zero_or_pos (dg (f (k - 1))) with h2 | h2
    · exact absurd (i_eqI (by rw [← h1, h2]; rfl)) (hp h)
    · exact h2
  refine ⟨⟨fun h => ?_, fun h => ?_⟩, ht⟩
  · subst h
    exact V_zero (fun j hj => hz j (by omega) hj)
  · rcases Nat.eq_zero_or_pos k with h1 | h1
    · exact h1
    · have h2 := V_pos (f := f) (show k - 1 < n by omega) (ht h1)
      have h3 := BBp (k - 1)
      omega
set_option maxRecDepth 100000 in
theorem c_isZero (l : Launch) (D : va_G) (kA : Nat → ClassId) (N0 : Nat) (M : xM) (row n : Nat) (f : Nat → Int32) (ha : M row = some (xI (kA 0) n f)) (nf : nn f n) (hn : n < 2 ^ 31) : cI l yX1_isZero wsX1_isZero (xR 1) [.ref row] D kA N0 M (fun r M1 => M1 = M ∧ ((r = 1 ∧ V f n = 0) ∨ (r = 0 ∧ 0 < V f n))) := by
  refine r_met (cc := cX1_isZero) (maxL := 1) (ret := (some .boolean)) (by decide) rfl (Nat.le_of_ble_eq_true rfl) ?_
  intro p e s m below meth c ls C hM hnm hl
  obtain ⟨hx, hb, hml, hown, hts, hr, hlocks, hK, hN⟩ := id C
  have hS : va_S (xA N0) s.heap s.heap [] := va_S.rf
  have hl : lv_has ls 1 [(0, .ref row)] := hl
  refine lv_aload_n hx hb dX1_isZero_0 rfl (lv_at hl 0 rfl) ?_
  refine r_Si (As := [.ref row]) (rest := []) C hM hS (c_sizeOf l D kA N0 M row n f ha hn) gX1_isZero_X1_sizeOf rfl rfl rfl ⟨by decide +kernel, by decide +kernel, (by decide +kernel : (parseMethodDescriptor yX1_sizeOf.desc).map (fun d => d.parameters.length) = some 1)⟩ ⟨Nat.le_of_ble_eq_true rfl, Nat.le_of_ble_eq_true rfl⟩ hl.1 rfl (Nat.le_of_ble_eq_true rfl) dX1_isZero_1 ⟨Nat.le_of_ble_eq_true rfl, Nat.le_of_ble_eq_true rfl⟩ (fun r M1 H locs hp hM hS => ?_)
  obtain ⟨eM, k, rfl, hk, hz, hp⟩ := hp
  rw [eM] at hM
  have hV := size_V nf hk hz hp
  refine r_if_neN (tgt := 11) C (by omega) dX1_isZero_4 (by decide) (fun hc => ?_) (fun hc => ?_)
  · refine lv_iconst (v := nI 0) hx hb dX1_isZero_11 (by decide) ?_
    exact r_zret C hM hS rfl (⟨rfl, Or.inr ⟨rfl, by have := hV.1; omega⟩⟩) dX1_isZero_12
  · refine lv_iconst (v := nI 1) hx hb dX1_isZero_7 (by decide) ?_
    refine lv_goto (tgt := 12) hx hb dX1_isZero_8 (by decide) ?_
    exact r_zret C hM hS rfl (⟨rfl, Or.inl ⟨rfl, hV.1.mp hc⟩⟩) dX1_isZero_12
-- Integer.numberOfLeadingZeros
set_option maxRecDepth 100000 in
theorem nlz_73 (C : xC p s m args meth c cJ6_numberOfLeadingZeros_0f7a4 2 ret RJ6 wsJ6_numberOfLeadingZeros_0f7a4 D vwCl (xT kA) N0) {a n : Nat} {ls : Array Slot} (ha : 0 < a) (ha4 : a < 4) (hn : 1 ≤ n) (hn2 : n < 100) (hl : lv_has ls 2 [(0, .int (nI a)), (1, .int (nI n))])
    (hexit : ∀ ls, W p l e R s m args below meth c H locs cells slots Q (F0 m 78 ls [.int (nI (n + 1 - bl a))])) : W p l e R s m args below meth c H locs cells slots Q (F0 m 73 ls []) := by
  obtain ⟨hx, hb, hml, hown, hts, hr, hlocks, hK, hN⟩ := id C
  refine lv_iload_n hx hb dJ6_numberOfLeadingZeros_0f7a4_73 rfl (lv_at hl 1 rfl) ?_
  refine lv_iload_n hx hb dJ6_numberOfLeadingZeros_0f7a4_74 rfl (lv_at hl 0 rfl) ?_
  refine lv_iconst (v := nI 1) hx hb dJ6_numberOfLeadingZeros_0f7a4_75 (by decide) ?_
  refine lv_iushr (v := ((nI a).toUInt32 >>> ((nI 1).toUInt32 &&& Int32.toUInt32 31)).toInt32) hx hb dJ6_numberOfLeadingZeros_0f7a4_76 rfl ?_
  refine r_topi C (nI (a / 2)) (pk_ushrN (by omega) _ 1 (by decide)) ?_
  refine r_isubN C (by omega) dJ6_numberOfLeadingZeros_0f7a4_77 ?_
  have e : n - a / 2 = n + 1 - bl a := by rw [bl_small ha ha4]; omega
  rw [e]
  exact hexit ls
set_option maxRecDepth 100000 in
theorem nlz_61 (C : xC p s m args meth c cJ6_numberOfLeadingZeros_0f7a4 2 ret RJ6 wsJ6_numberOfLeadingZeros_0f7a4 D vwCl (xT kA) N0) {a n : Nat} {ls : Array Slot} (ha : 0 < a) (ha4 : a < 16) (hn : 3 ≤ n) (hn2 : n < 100) (hl : lv_has ls 2 [(0, .int (nI a)), (1, .int (nI n))])
    (hexit : ∀ ls, W p l e R s m args below meth c H locs cells slots Q (F0 m 78 ls [.int (nI (n + 1 - bl a))])) : W p l e R s m args below meth c H locs cells slots Q (F0 m 61 ls []) := by
  obtain ⟨hx, hb, hml, hown, hts, hr, hlocks, hK, hN⟩ := id C
  refine lv_iload_n hx hb dJ6_numberOfLeadingZeros_0f7a4_61 rfl (lv_at hl 0 rfl) ?_
  refine lv_iconst (v := nI 4) hx hb dJ6_numberOfLeadingZeros_0f7a4_62 (by decide) ?_
  refine r_icmp_ltN (tgt := 73) C (by omega) (by omega) dJ6_numberOfLeadingZeros_0f7a4_63 (by decide) (fun hc => ?_) (fun hc => ?_)
  · exact nlz_73 C ha hc (by omega) hn2 hl hexit
  · refine lv_iinc (v := nI (n - 2)) (lv' := [(1, .int (nI (n - 2))), (0, .int (nI a))]) hx hb dJ6_numberOfLeadingZeros_0f7a4_66 hl (k := 1) rfl (r_decN (k := 2) (by decide) (by omega)) (by decide) rfl (fun ls hl => ?_)
    refine lv_iload_n hx hb dJ6_numberOfLeadingZeros_0f7a4_69 rfl (lv_at hl 1 rfl) ?_
    refine lv_iconst (v := nI 2) hx hb dJ6_numberOfLeadingZeros_0f7a4_70 (by decide) ?_
    refine lv_iushr (v := ((nI a).toUInt32 >>> ((nI 2).toUInt32 &&& Int32.toUInt32 31)).toInt32) hx hb dJ6_numberOfLeadingZeros_0f7a4_71 rfl ?_
    refine r_topi C (nI (a / 4)) (pk_ushrN (by omega) _ 2 (by decide)) ?_
    refine lv_istore_n (lv' := [(0, .int (nI (a / 4))), (1, .int (nI (n - 2)))]) hx hb dJ6_numberOfLeadingZeros_0f7a4_72 rfl hl (by decide) rfl (fun ls hl => ?_)
    have e1 : a / 4 = a / 2 ^ 2 := rfl
    have e2 := bl_div (a := a) (k := 2) hc
    have e3 : 0 < a / 4 := by omega
    have e4 := bl_lo ha
    have e5 : n - 2 + 1 - bl (a / 4) = n + 1 - bl a := by
      rw [e1, e2]
      have h1 : 2 ^ 2 < 2 ^ bl a := Nat.lt_of_le_of_lt hc (bl_hi a)
      have h2 : 2 < bl a := (Nat.pow_lt_pow_iff_right (by decide : 1 < 2)).mp h1
      omega
    exact nlz_73 C e3 (by omega) (by omega) (by omega) (lv_sub hl [0, 1] rfl) (fun ls => by rw [e5]; exact hexit ls)
set_option maxRecDepth 100000 in
theorem nlz_48 (C : xC p s m args meth c cJ6_numberOfLeadingZeros_0f7a4 2 ret RJ6 wsJ6_numberOfLeadingZeros_0f7a4 D vwCl (xT kA) N0) {a n : Nat} {ls : Array Slot} (ha : 0 < a) (ha4 : a < 256) (hn : 7 ≤ n) (hn2 : n < 100) (hl : lv_has ls 2 [(0, .int (nI a)), (1, .int (nI n))])
    (hexit : ∀ ls, W p l e R s m args below meth c H locs cells slots Q (F0 m 78 ls [.int (nI (n + 1 - bl a))])) : W p l e R s m args below meth c H locs cells slots Q (F0 m 48 ls []) := by
  obtain ⟨hx, hb, hml, hown, hts, hr, hlocks, hK, hN⟩ := id C
  refine lv_iload_n hx hb dJ6_numberOfLeadingZeros_0f7a4_48 rfl (lv_at hl 0 rfl) ?_
  refine lv_bipush (v := nI 16) hx hb dJ6_numberOfLeadingZeros_0f7a4_49 (by decide) ?_
  refine r_icmp_ltN (tgt := 61) C (by omega) (by omega) dJ6_numberOfLeadingZeros_0f7a4_51 (by decide) (fun hc => ?_) (fun hc => ?_)
  · exact nlz_61 C ha hc (by omega) hn2 hl hexit
  · refine lv_iinc (v := nI (n - 4)) (lv' := [(1, .int (nI (n - 4))), (0, .int (nI a))]) hx hb dJ6_numberOfLeadingZeros_0f7a4_54 hl (k := 1) rfl (r_decN (k := 4) (by decide) (by omega)) (by decide) rfl (fun ls hl => ?_)
    refine lv_iload_n hx hb dJ6_numberOfLeadingZeros_0f7a4_57 rfl (lv_at hl 1 rfl) ?_
    refine lv_iconst (v := nI 4) hx hb dJ6_numberOfLeadingZeros_0f7a4_58 (by decide) ?_
    refine lv_iushr (v := ((nI a).toUInt32 >>> ((nI 4).toUInt32 &&& Int32.toUInt32 31)).toInt32) hx hb dJ6_numberOfLeadingZeros_0f7a4_59 rfl ?_
    refine r_topi C (nI (a / 16)) (pk_ushrN (by omega) _ 4 (by decide)) ?_
    refine lv_istore_n (lv' := [(0, .int (nI (a / 16))), (1, .int (nI (n - 4)))]) hx hb dJ6_numberOfLeadingZeros_0f7a4_60 rfl hl (by decide) rfl (fun ls hl => ?_)
    have e1 : a / 16 = a / 2 ^ 4 := rfl
    have e2 := bl_div (a := a) (k := 4) hc
    have e3 : 0 < a / 16 := by omega
    have e4 := bl_lo ha
    have e5 : n - 4 + 1 - bl (a / 16) = n + 1 - bl a := by
      rw [e1, e2]
      have h1 : 2 ^ 4 < 2 ^ bl a := Nat.lt_of_le_of_lt hc (bl_hi a)
      have h2 : 4 < bl a := (Nat.pow_lt_pow_iff_right (by decide : 1 < 2)).mp h1
      omega
    exact nlz_61 C e3 (by omega) (by omega) (by omega) (lv_sub hl [0, 1] rfl) (fun ls => by rw [e5]; exact hexit ls)
set_option maxRecDepth 100000 in
theorem nlz_33 (C : xC p s m args meth c cJ6_numberOfLeadingZeros_0f7a4 2 ret RJ6 wsJ6_numberOfLeadingZeros_0f7a4 D vwCl (xT kA) N0) {a n : Nat} {ls : Array Slot} (ha : 0 < a) (ha4 : a < 65536) (hn : 15 ≤ n) (hn2 : n < 100) (hl : lv_has ls 2 [(0, .int (nI a)), (1, .int (nI n))])
    (hexit : ∀ ls, W p l e R s m args below meth c H locs cells slots Q (F0 m 78 ls [.int (nI (n + 1 - bl a))])) : W p l e R s m args below meth c H locs cells slots Q (F0 m 33 ls []) := by
  obtain ⟨hx, hb, hml, hown, hts, hr, hlocks, hK, hN⟩ := id C
  refine lv_iload_n hx hb dJ6_numberOfLeadingZeros_0f7a4_33 rfl (lv_at hl 0 rfl) ?_
  refine lv_sipush (v := nI 256) hx hb dJ6_numberOfLeadingZeros_0f7a4_34 (by decide) ?_
  refine r_icmp_ltN (tgt := 48) C (by omega) (by omega) dJ6_numberOfLeadingZeros_0f7a4_37 (by decide) (fun hc => ?_) (fun hc => ?_)
  · exact nlz_48 C ha hc (by omega) hn2 hl hexit
  · refine lv_iinc (v := nI (n - 8)) (lv' := [(1, .int (nI (n - 8))), (0, .int (nI a))]) hx hb dJ6_numberOfLeadingZeros_0f7a4_40 hl (k := 1) rfl (r_decN (k := 8) (by decide) (by omega)) (by decide) rfl (fun ls hl => ?_)
    refine lv_iload_n hx hb dJ6_numberOfLeadingZeros_0f7a4_43 rfl (lv_at hl 1 rfl) ?_
    refine lv_bipush (v := nI 8) hx hb dJ6_numberOfLeadingZeros_0f7a4_44 (by decide) ?_
    refine lv_iushr (v := ((nI a).toUInt32 >>> ((nI 8).toUInt32 &&& Int32.toUInt32 31)).toInt32) hx hb dJ6_numberOfLeadingZeros_0f7a4_46 rfl ?_
    refine r_topi C (nI (a / 256)) (pk_ushrN (by omega) _ 8 (by decide)) ?_
    refine lv_istore_n (lv' := [(0, .int (nI (a / 256))), (1, .int (nI (n - 8)))]) hx hb dJ6_numberOfLeadingZeros_0f7a4_47 rfl hl (by decide) rfl (fun ls hl => ?_)
    have e1 : a / 256 = a / 2 ^ 8 := rfl
    have e2 := bl_div (a := a) (k := 8) hc
    have e3 : 0 < a / 256 := by omega
    have e4 := bl_lo ha
    have e5 : n - 8 + 1 - bl (a / 256) = n + 1 - bl a := by
      rw [e1, e2]
      have h1 : 2 ^ 8 < 2 ^ bl a := Nat.lt_of_le_of_lt hc (bl_hi a)
      have h2 : 8 < bl a := (Nat.pow_lt_pow_iff_right (by decide : 1 < 2)).mp h1
      omega
    exact nlz_48 C e3 (by omega) (by omega) (by omega) (lv_sub hl [0, 1] rfl) (fun ls => by rw [e5]; exact hexit ls)
set_option maxRecDepth 100000 in
theorem nlz_18 (C : xC p s m args meth c cJ6_numberOfLeadingZeros_0f7a4 2 ret RJ6 wsJ6_numberOfLeadingZeros_0f7a4 D vwCl (xT kA) N0) {a n : Nat} {ls : Array Slot} (ha : 0 < a) (ha4 : a < 2147483648) (hn : 31 ≤ n) (hn2 : n < 100) (hl : lv_has ls 2 [(0, .int (nI a)), (1, .int (nI n))])
    (hexit : ∀ ls, W p l e R s m args below meth c H locs cells slots Q (F0 m 78 ls [.int (nI (n + 1 - bl a))])) : W p l e R s m args below meth c H locs cells slots Q (F0 m 18 ls []) := by
  obtain ⟨hx, hb, hml, hown, hts, hr, hlocks, hK, hN⟩ := id C
  refine lv_iload_n hx hb dJ6_numberOfLeadingZeros_0f7a4_18 rfl (lv_at hl 0 rfl) ?_
  refine lv_ldcw (v := nI 65536) hx hb hown (hts (.constant RJ6 264 (65536)) (by decide +kernel)) dJ6_numberOfLeadingZeros_0f7a4_19 ?_
  refine r_icmp_ltN (tgt := 33) C (by omega) (by omega) dJ6_numberOfLeadingZeros_0f7a4_22 (by decide) (fun hc => ?_) (fun hc => ?_)
  · exact nlz_33 C ha hc (by omega) hn2 hl hexit
  · refine lv_iinc (v := nI (n - 16)) (lv' := [(1, .int (nI (n - 16))), (0, .int (nI a))]) hx hb dJ6_numberOfLeadingZeros_0f7a4_25 hl (k := 1) rfl (r_decN (k := 16) (by decide) (by omega)) (by decide) rfl (fun ls hl => ?_)
    refine lv_iload_n hx hb dJ6_numberOfLeadingZeros_0f7a4_28 rfl (lv_at hl 1 rfl) ?_
    refine lv_bipush (v := nI 16) hx hb dJ6_numberOfLeadingZeros_0f7a4_29 (by decide) ?_
    refine lv_iushr (v := ((nI a).toUInt32 >>> ((nI 16).toUInt32 &&& Int32.toUInt32 31)).toInt32) hx hb dJ6_numberOfLeadingZeros_0f7a4_31 rfl ?_
    refine r_topi C (nI (a / 65536)) (pk_ushrN (by omega) _ 16 (by decide)) ?_
    refine lv_istore_n (lv' := [(0, .int (nI (a / 65536))), (1, .int (nI (n - 16)))]) hx hb dJ6_numberOfLeadingZeros_0f7a4_32 rfl hl (by decide) rfl (fun ls hl => ?_)
    have e1 : a / 65536 = a / 2 ^ 16 := rfl
    have e2 := bl_div (a := a) (k := 16) hc
    have e3 : 0 < a / 65536 := by omega
    have e4 := bl_lo ha
    have e5 : n - 16 + 1 - bl (a / 65536) = n + 1 - bl a := by
      rw [e1, e2]
      have h1 : 2 ^ 16 < 2 ^ bl a := Nat.lt_of_le_of_lt hc (bl_hi a)
      have h2 : 16 < bl a := (Nat.pow_lt_pow_iff_right (by decide : 1 < 2)).mp h1
      omega
    exact nlz_33 C e3 (by omega) (by omega) (by omega) (lv_sub hl [0, 1] rfl) (fun ls => by rw [e5]; exact hexit ls)
set_option maxRecDepth 100000 in
theorem c_nlz (l : Launch) (D : va_G) (kA : Nat → ClassId) (N0 : Nat) (M : xM) (a : Nat) (h0 : 0 < a) (ha : a < 2147483648) : cI l yJ6_numberOfLeadingZeros_0f7a4 wsJ6_numberOfLeadingZeros_0f7a4 (xR 0) [.int (nI a)] D kA N0 M (fun r M1 => M1 = M ∧ r = nI (32 - bl a)) := by
  refine r_met (cc := cJ6_numberOfLeadingZeros_0f7a4) (maxL := 2) (ret := (some .int)) (by decide) rfl (Nat.le_of_ble_eq_true rfl) ?_
  intro p e s m below meth c ls C hM hnm hl
  obtain ⟨hx, hb, hml, hown, hts, hr, hlocks, hK, hN⟩ := id C
  have hS : va_S (xA N0) s.heap s.heap [] := va_S.rf
  have hl : lv_has ls 2 [(0, .int (nI a))] := hl
  refine lv_iload_n hx hb dJ6_numberOfLeadingZeros_0f7a4_0 rfl (lv_at hl 0 rfl) ?_
  refine r_if_gtN (tgt := 15) C (by omega) dJ6_numberOfLeadingZeros_0f7a4_1 (by decide) (fun hc => ?_) (fun hc => ?_)
  · refine lv_bipush (v := nI 31) hx hb dJ6_numberOfLeadingZeros_0f7a4_15 (by decide) ?_
    refine lv_istore_n (lv' := [(1, .int (nI 31)), (0, .int (nI a))]) hx hb dJ6_numberOfLeadingZeros_0f7a4_17 rfl hl (by decide) rfl (fun ls hl => ?_)
    refine nlz_18 C h0 ha (n := 31) (by omega) (by omega) (lv_sub hl [1, 0] rfl) (fun ls => ?_)
    exact r_iret C hM hS (⟨rfl, rfl⟩) dJ6_numberOfLeadingZeros_0f7a4_78
  · omega
set_option maxRecDepth 100000 in
theorem c_bitsOf (l : Launch) (D : va_G) (kA : Nat → ClassId) (N0 : Nat) (M : xM) (row n : Nat) (f : Nat → Int32) (ha : M row = some (xI (kA 0) n f)) (nf : nn f n) (hn : n < 1000) : cI l yX1_bitsOf wsX1_bitsOf (xR 1) [.ref row] D kA N0 M (fun r M1 => M1 = M ∧ r = nI (bl (V f n))) := by
  refine r_met (cc := cX1_bitsOf) (maxL := 2) (ret := (some .int)) (by decide) rfl (Nat.le_of_ble_eq_true rfl) ?_
  intro p e s m below meth c ls C hM hnm hl
  obtain ⟨hx, hb, hml, hown, hts, hr, hlocks, hK, hN⟩ := id C
  have hS : va_S (xA N0) s.heap s.heap [] := va_S.rf
  have hl : lv_has ls 2 [(0, .ref row)] := hl
  refine lv_aload_n hx hb dX1_bitsOf_0 rfl (lv_at hl 0 rfl) ?_
  refine r_Si (As := [.ref row]) (rest := []) C hM hS (c_sizeOf l D kA N0 M row n f ha (by omega)) gX1_bitsOf_X1_sizeOf rfl rfl rfl ⟨by decide +kernel, by decide +kernel, (by decide +kernel : (parseMethodDescriptor yX1_sizeOf.desc).map (fun d => d.parameters.length) = some 1)⟩ ⟨Nat.le_of_ble_eq_true rfl, Nat.le_of_ble_eq_true rfl⟩ hl.1 rfl (Nat.le_of_ble_eq_true rfl) dX1_bitsOf_1 ⟨Nat.le_of_ble_eq_true rfl, Nat.le_of_ble_eq_true rfl⟩ (fun r M1 H locs hp hM hS => ?_)
  obtain ⟨eM, k, rfl, hk, hz, hp⟩ := hp
  rw [eM] at hM
  have hV := size_V nf hk hz hp
  refine lv_istore_n (lv' := [(1, .int (nI k)), (0, .ref row)]) hx hb dX1_bitsOf_4 rfl hl (by decide) rfl (fun ls hl => ?_)
  refine lv_iload_n hx hb dX1_bitsOf_5 rfl (lv_at hl 0 rfl) ?_
  refine r_if_neN (tgt := 13) C (by omega) dX1_bitsOf_6 (by decide) (fun hc => ?_) (fun hc => ?_)
  · have hk0 : 0 < k := by omega
    have ht := hV.2 hk0
    have hlt := dg_lt (f (k - 1))
    have hB : BB = 2147483648 := rfl
    have e0 := bl_row hk0 hk hz ht
    have e1 : bl (dg (f (k - 1))) ≤ 31 := bl_le (by rw [hB] at hlt; exact hlt)
    have e2 := bl_pos ht
    refine lv_iload_n hx hb dX1_bitsOf_13 rfl (lv_at hl 0 rfl) ?_
    refine lv_bipush (v := nI 31) hx hb dX1_bitsOf_14 (by decide) ?_
    refine r_imulN C dX1_bitsOf_16 ?_
    refine lv_iconst (v := nI 1) hx hb dX1_bitsOf_17 (by decide) ?_
    refine r_iaddN C dX1_bitsOf_18 ?_
    refine lv_aload_n hx hb dX1_bitsOf_19 rfl (lv_at hl 1 rfl) ?_
    refine lv_iload_n hx hb dX1_bitsOf_20 rfl (lv_at hl 0 rfl) ?_
    refine lv_iconst (v := nI 1) hx hb dX1_bitsOf_21 (by decide) ?_
    refine r_isubN C (by omega) dX1_bitsOf_22 ?_
    refine r_iald C hM (ha) rfl (by omega) (by omega) dX1_bitsOf_23 ?_
    refine r_topi C (nI (dg (f (k - 1)))) (nI_dg (nf (k - 1) (by omega))) ?_
    refine r_Si (As := [.int (nI (dg (f (k - 1))))]) (rest := [.int (nI ((k * 31) + 1))]) C hM hS (c_nlz l D kA N0 M (dg (f (k - 1))) ht (by omega)) gX1_bitsOf_J6_numberOfLeadingZeros_0f7a4 rfl rfl rfl ⟨by decide +kernel, by decide +kernel, (by decide +kernel : (parseMethodDescriptor yJ6_numberOfLeadingZeros_0f7a4.desc).map (fun d => d.parameters.length) = some 1)⟩ ⟨Nat.le_of_ble_eq_true rfl, Nat.le_of_ble_eq_true rfl⟩ hl.1 rfl (Nat.le_of_ble_eq_true rfl) dX1_bitsOf_24 ⟨Nat.le_of_ble_eq_true rfl, Nat.le_of_ble_eq_true rfl⟩ (fun r M2 H locs hq hM hS => ?_)
    obtain ⟨eM2, rfl⟩ := hq
    rw [eM2] at hM
    refine r_isubN C (by omega) dX1_bitsOf_27 ?_
    exact r_iret C hM hS (⟨rfl, by rw [e0]; congr 1; omega⟩) dX1_bitsOf_28
  · refine lv_iconst (v := nI 0) hx hb dX1_bitsOf_9 (by decide) ?_
    refine lv_goto (tgt := 28) hx hb dX1_bitsOf_10 (by decide) ?_
    exact r_iret C hM hS (⟨rfl, by rw [hV.1.mp hc]; rfl⟩) dX1_bitsOf_28
end N3
