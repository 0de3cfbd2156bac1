theorem spOn_of {S : St} {x v : Int32} (h : (v = 1 ∧ good S x) ∨ (v = 0 ∧ ¬ good S x)) : v = spOn S x := by
  unfold spOn
  rcases h with ⟨e, h⟩ | ⟨e, h⟩
  · rw [if_pos h]; exact e
  · rw [if_neg h]; exact e
section LAWC
variable {p : Program} {l : Launch} {e : Env} {s : State} {m : MethodId} {below : List Frame} {meth : Method} {c : Code} {H : Heap} {locs : List Loc} {Q : State → Prop} {cells slots : Nat} {ls : Array Slot} {D : va_G} {kA : Nat → ClassId} {N0 h b L i : Nat} {xs : Nat → Int32} {M : xM} {S : St} {A9 : Array Value} {rt9 : Option FieldType}
/-- the loop goes on behind a call -/
def LGo (p : Program) (l : Launch) (e : Env) (s : State) (m : MethodId) (A9 : Array Value) (below : List Frame) (meth : Method) (c : Code) (Q : State → Prop) (D : va_G) (kA : Nat → ClassId) (N0 h b i : Nat) : Prop := ∀ (S : St) (M : xM) (H : Heap) (locs : List Loc) (ls : Array Slot), Dk kA M h S → Mk kA M (h + 76) S → xW D vwCl N0 M H → va_S (xA N0) s.heap H locs → lv_has ls 4 [(3, .int (nI i)), (2, .ref (h + 76)), (1, .ref h), (0, .ref b)] → W p l e room_1 s m A9 below meth c H locs 100 2000 Q (F0 m 591 ls [])
set_option maxRecDepth 100000 in
theorem la_select (C : xC p s m A9 meth c cL_law 4 rt9 RL wsL_law D vwCl (xT kA) N0) (hX : va_X b L xs s s.heap) (hbl : b < N0) (hN0 : N0 = s.heap.size) (hL : L ≤ 3073) (hi : i + 5 < L) (hgo : LGo p l e s m A9 below meth c Q D kA N0 h b i) (dk : Dk kA M h S) (mk : Mk kA M (h + 76) S) (hM : xW D vwCl N0 M H) (hS : va_S (xA N0) s.heap H locs) (hl : lv_has ls 4 [(3, .int (nI i)), (2, .ref (h + 76)), (1, .ref h), (0, .ref b)]) : W p l e room_1 s m A9 below meth c H locs 100 2000 Q (F0 m 116 ls []) := by
  obtain ⟨hx, hb, hml, hown, hts, hr, hlocks, hK, hN⟩ := _root_.id C
  have hob := dk.2.1.ob
  refine lv_aload_n hx hb dL_law_116 rfl (lv_at hl 2 rfl) ?_
  refine lv_aload_n hx hb dL_law_117 rfl (lv_at hl 3 rfl) ?_
  refine lv_iload_n hx hb dL_law_118 rfl (lv_at hl 0 rfl) ?_
  refine lv_iconst (v := nI 1) hx hb dL_law_119 (by decide) ?_
  refine r_iaddN C dL_law_120 ?_
  refine r_sld C hX hbl hN0 hS (by omega) (by omega) dL_law_121 ?_
  refine r_Vi (As := [.int (xs (i + 1))]) (rest := []) C hM hS (c_select l D kA N0 M h S (xs (i + 1)) dk) (hob) rfl gL_law_X5_select rfl rfl rfl ⟨rfl, by decide +kernel, by decide +kernel, (by decide +kernel : (parseMethodDescriptor yX5_select.desc).map (fun d => d.parameters.length) = some 1)⟩ ⟨Nat.le_of_ble_eq_true rfl, Nat.le_of_ble_eq_true rfl⟩ hl.1 rfl (Nat.le_of_ble_eq_true rfl) dL_law_122 ⟨Nat.le_of_ble_eq_true rfl, Nat.le_of_ble_eq_true rfl⟩ (fun v M1 H locs hp hM hS => ?_)
  obtain ⟨ev, dk1, hf1⟩ := hp
  have mk1 := mk.kept (M1 := M1) (fun b9 b1 b2 => hf1 b9 (by omega))
  obtain ⟨us, hob1⟩ := mk1.1
  refine lv_aload_n hx hb dL_law_125 rfl (lv_at hl 1 rfl) ?_
  refine lv_aload_n hx hb dL_law_126 rfl (lv_at hl 3 rfl) ?_
  refine lv_iload_n hx hb dL_law_127 rfl (lv_at hl 0 rfl) ?_
  refine lv_iconst (v := nI 1) hx hb dL_law_128 (by decide) ?_
  refine r_iaddN C dL_law_129 ?_
  refine r_sld C hX hbl hN0 hS (by omega) (by omega) dL_law_130 ?_
  refine r_Vi (As := [.int (xs (i + 1))]) (rest := [.int v]) C hM hS (c6_select l D kA N0 M1 (h + 76) S (xs (i + 1)) dk.1 mk1) (hob1) rfl gL_law_X6_select rfl rfl rfl ⟨rfl, by decide +kernel, by decide +kernel, (by decide +kernel : (parseMethodDescriptor yX6_select.desc).map (fun d => d.parameters.length) = some 1)⟩ ⟨Nat.le_of_ble_eq_true rfl, Nat.le_of_ble_eq_true rfl⟩ hl.1 rfl (Nat.le_of_ble_eq_true rfl) dL_law_131 ⟨Nat.le_of_ble_eq_true rfl, Nat.le_of_ble_eq_true rfl⟩ (fun v2 M2 H locs hp hM hS => ?_)
  obtain ⟨ev2, mk2, hf2⟩ := hp
  have dk2 := dk1.kept6 (M1 := M2) (fun b9 b1 b2 => hf2 b9 (by omega))
  rw [ev, ev2]
  refine lv_icmp_eq (tgt := 591) hx hb dL_law_134 (by decide) (fun hc => ?_) (fun hc => ?_)
  · exact hgo _ _ H locs ls dk2 mk2 hM hS hl
  · exact absurd rfl hc
set_option maxRecDepth 100000 in
theorem la_feedLimb (C : xC p s m A9 meth c cL_law 4 rt9 RL wsL_law D vwCl (xT kA) N0) (hX : va_X b L xs s s.heap) (hbl : b < N0) (hN0 : N0 = s.heap.size) (hL : L ≤ 3073) (hi : i + 5 < L) (hgo : LGo p l e s m A9 below meth c Q D kA N0 h b i) (dk : Dk kA M h S) (mk : Mk kA M (h + 76) S) (hM : xW D vwCl N0 M H) (hS : va_S (xA N0) s.heap H locs) (hl : lv_has ls 4 [(3, .int (nI i)), (2, .ref (h + 76)), (1, .ref h), (0, .ref b)]) : W p l e room_1 s m A9 below meth c H locs 100 2000 Q (F0 m 139 ls []) := by
  obtain ⟨hx, hb, hml, hown, hts, hr, hlocks, hK, hN⟩ := _root_.id C
  have hob := dk.2.1.ob
  refine lv_aload_n hx hb dL_law_139 rfl (lv_at hl 2 rfl) ?_
  refine lv_aload_n hx hb dL_law_140 rfl (lv_at hl 3 rfl) ?_
  refine lv_iload_n hx hb dL_law_141 rfl (lv_at hl 0 rfl) ?_
  refine lv_iconst (v := nI 1) hx hb dL_law_142 (by decide) ?_
  refine r_iaddN C dL_law_143 ?_
  refine r_sld C hX hbl hN0 hS (by omega) (by omega) dL_law_144 ?_
  refine r_Vi (As := [.int (xs (i + 1))]) (rest := []) C hM hS (c_feedLimb l D kA N0 M h S (xs (i + 1)) dk) (hob) rfl gL_law_X5_feedLimb rfl rfl rfl ⟨rfl, by decide +kernel, by decide +kernel, (by decide +kernel : (parseMethodDescriptor yX5_feedLimb.desc).map (fun d => d.parameters.length) = some 1)⟩ ⟨Nat.le_of_ble_eq_true rfl, Nat.le_of_ble_eq_true rfl⟩ hl.1 rfl (Nat.le_of_ble_eq_true rfl) dL_law_145 ⟨Nat.le_of_ble_eq_true rfl, Nat.le_of_ble_eq_true rfl⟩ (fun v M1 H locs hp hM hS => ?_)
  obtain ⟨ev, dk1, hf1⟩ := hp
  have mk1 := mk.kept (M1 := M1) (fun b9 b1 b2 => hf1 b9 (by omega))
  obtain ⟨us, hob1⟩ := mk1.1
  refine lv_aload_n hx hb dL_law_148 rfl (lv_at hl 1 rfl) ?_
  refine lv_aload_n hx hb dL_law_149 rfl (lv_at hl 3 rfl) ?_
  refine lv_iload_n hx hb dL_law_150 rfl (lv_at hl 0 rfl) ?_
  refine lv_iconst (v := nI 1) hx hb dL_law_151 (by decide) ?_
  refine r_iaddN C dL_law_152 ?_
  refine r_sld C hX hbl hN0 hS (by omega) (by omega) dL_law_153 ?_
  refine r_Vi (As := [.int (xs (i + 1))]) (rest := [.int v]) C hM hS (c6_feedLimb l D kA N0 M1 (h + 76) S (xs (i + 1)) dk.1 mk1) (hob1) rfl gL_law_X6_feedLimb rfl rfl rfl ⟨rfl, by decide +kernel, by decide +kernel, (by decide +kernel : (parseMethodDescriptor yX6_feedLimb.desc).map (fun d => d.parameters.length) = some 1)⟩ ⟨Nat.le_of_ble_eq_true rfl, Nat.le_of_ble_eq_true rfl⟩ hl.1 rfl (Nat.le_of_ble_eq_true rfl) dL_law_154 ⟨Nat.le_of_ble_eq_true rfl, Nat.le_of_ble_eq_true rfl⟩ (fun v2 M2 H locs hp hM hS => ?_)
  obtain ⟨ev2, mk2, hf2⟩ := hp
  have dk2 := dk1.kept6 (M1 := M2) (fun b9 b1 b2 => hf2 b9 (by omega))
  rw [ev, ev2]
  refine lv_icmp_eq (tgt := 591) hx hb dL_law_157 (by decide) (fun hc => ?_) (fun hc => ?_)
  · exact hgo _ _ H locs ls dk2 mk2 hM hS hl
  · exact absurd rfl hc
set_option maxRecDepth 100000 in
theorem la_seal (C : xC p s m A9 meth c cL_law 4 rt9 RL wsL_law D vwCl (xT kA) N0) (hX : va_X b L xs s s.heap) (hbl : b < N0) (hN0 : N0 = s.heap.size) (hL : L ≤ 3073) (hi : i + 5 < L) (hgo : LGo p l e s m A9 below meth c Q D kA N0 h b i) (dk : Dk kA M h S) (mk : Mk kA M (h + 76) S) (hM : xW D vwCl N0 M H) (hS : va_S (xA N0) s.heap H locs) (hl : lv_has ls 4 [(3, .int (nI i)), (2, .ref (h + 76)), (1, .ref h), (0, .ref b)]) : W p l e room_1 s m A9 below meth c H locs 100 2000 Q (F0 m 162 ls []) := by
  obtain ⟨hx, hb, hml, hown, hts, hr, hlocks, hK, hN⟩ := _root_.id C
  have hob := dk.2.1.ob
  refine lv_aload_n hx hb dL_law_162 rfl (lv_at hl 2 rfl) ?_
  refine r_Vi (As := []) (rest := []) C hM hS (c_seal l D kA N0 M h S  dk) (hob) rfl gL_law_X5_seal rfl rfl rfl ⟨rfl, by decide +kernel, by decide +kernel, (by decide +kernel : (parseMethodDescriptor yX5_seal.desc).map (fun d => d.parameters.length) = some 0)⟩ ⟨Nat.le_of_ble_eq_true rfl, Nat.le_of_ble_eq_true rfl⟩ hl.1 rfl (Nat.le_of_ble_eq_true rfl) dL_law_163 ⟨Nat.le_of_ble_eq_true rfl, Nat.le_of_ble_eq_true rfl⟩ (fun v M1 H locs hp hM hS => ?_)
  obtain ⟨ev, dk1, hf1⟩ := hp
  have mk1 := mk.kept (M1 := M1) (fun b9 b1 b2 => hf1 b9 (by omega))
  obtain ⟨us, hob1⟩ := mk1.1
  refine lv_aload_n hx hb dL_law_166 rfl (lv_at hl 1 rfl) ?_
  refine r_Vi (As := []) (rest := [.int v]) C hM hS (c6_seal l D kA N0 M1 (h + 76) S  dk.1 mk1) (hob1) rfl gL_law_X6_seal rfl rfl rfl ⟨rfl, by decide +kernel, by decide +kernel, (by decide +kernel : (parseMethodDescriptor yX6_seal.desc).map (fun d => d.parameters.length) = some 0)⟩ ⟨Nat.le_of_ble_eq_true rfl, Nat.le_of_ble_eq_true rfl⟩ hl.1 rfl (Nat.le_of_ble_eq_true rfl) dL_law_167 ⟨Nat.le_of_ble_eq_true rfl, Nat.le_of_ble_eq_true rfl⟩ (fun v2 M2 H locs hp hM hS => ?_)
  obtain ⟨ev2, mk2, hf2⟩ := hp
  have dk2 := dk1.kept6 (M1 := M2) (fun b9 b1 b2 => hf2 b9 (by omega))
  rw [ev, ev2]
  refine lv_icmp_eq (tgt := 591) hx hb dL_law_170 (by decide) (fun hc => ?_) (fun hc => ?_)
  · exact hgo _ _ H locs ls dk2 mk2 hM hS hl
  · exact absurd rfl hc
set_option maxRecDepth 100000 in
theorem la_open (C : xC p s m A9 meth c cL_law 4 rt9 RL wsL_law D vwCl (xT kA) N0) (hX : va_X b L xs s s.heap) (hbl : b < N0) (hN0 : N0 = s.heap.size) (hL : L ≤ 3073) (hi : i + 5 < L) (hgo : LGo p l e s m A9 below meth c Q D kA N0 h b i) (dk : Dk kA M h S) (mk : Mk kA M (h + 76) S) (hM : xW D vwCl N0 M H) (hS : va_S (xA N0) s.heap H locs) (hl : lv_has ls 4 [(3, .int (nI i)), (2, .ref (h + 76)), (1, .ref h), (0, .ref b)]) : W p l e room_1 s m A9 below meth c H locs 100 2000 Q (F0 m 175 ls []) := by
  obtain ⟨hx, hb, hml, hown, hts, hr, hlocks, hK, hN⟩ := _root_.id C
  have hob := dk.2.1.ob
  refine lv_aload_n hx hb dL_law_175 rfl (lv_at hl 2 rfl) ?_
  refine r_Vi (As := []) (rest := []) C hM hS (c_open l D kA N0 M h S  dk) (hob) rfl gL_law_X5_open rfl rfl rfl ⟨rfl, by decide +kernel, by decide +kernel, (by decide +kernel : (parseMethodDescriptor yX5_open.desc).map (fun d => d.parameters.length) = some 0)⟩ ⟨Nat.le_of_ble_eq_true rfl, Nat.le_of_ble_eq_true rfl⟩ hl.1 rfl (Nat.le_of_ble_eq_true rfl) dL_law_176 ⟨Nat.le_of_ble_eq_true rfl, Nat.le_of_ble_eq_true rfl⟩ (fun v M1 H locs hp hM hS => ?_)
  obtain ⟨ev, dk1, hf1⟩ := hp
  have mk1 := mk.kept (M1 := M1) (fun b9 b1 b2 => hf1 b9 (by omega))
  obtain ⟨us, hob1⟩ := mk1.1
  refine lv_aload_n hx hb dL_law_179 rfl (lv_at hl 1 rfl) ?_
  refine r_Vi (As := []) (rest := [.int v]) C hM hS (c6_open l D kA N0 M1 (h + 76) S  dk.1 mk1) (hob1) rfl gL_law_X6_open rfl rfl rfl ⟨rfl, by decide +kernel, by decide +kernel, (by decide +kernel : (parseMethodDescriptor yX6_open.desc).map (fun d => d.parameters.length) = some 0)⟩ ⟨Nat.le_of_ble_eq_true rfl, Nat.le_of_ble_eq_true rfl⟩ hl.1 rfl (Nat.le_of_ble_eq_true rfl) dL_law_180 ⟨Nat.le_of_ble_eq_true rfl, Nat.le_of_ble_eq_true rfl⟩ (fun v2 M2 H locs hp hM hS => ?_)
  obtain ⟨ev2, mk2, hf2⟩ := hp
  have dk2 := dk1.kept6 (M1 := M2) (fun b9 b1 b2 => hf2 b9 (by omega))
  rw [ev, ev2]
  refine lv_icmp_eq (tgt := 591) hx hb dL_law_183 (by decide) (fun hc => ?_) (fun hc => ?_)
  · exact hgo _ _ H locs ls dk2 mk2 hM hS hl
  · exact absurd rfl hc
set_option maxRecDepth 100000 in
theorem la_limb (C : xC p s m A9 meth c cL_law 4 rt9 RL wsL_law D vwCl (xT kA) N0) (hX : va_X b L xs s s.heap) (hbl : b < N0) (hN0 : N0 = s.heap.size) (hL : L ≤ 3073) (hi : i + 5 < L) (hgo : LGo p l e s m A9 below meth c Q D kA N0 h b i) (dk : Dk kA M h S) (mk : Mk kA M (h + 76) S) (hM : xW D vwCl N0 M H) (hS : va_S (xA N0) s.heap H locs) (hl : lv_has ls 4 [(3, .int (nI i)), (2, .ref (h + 76)), (1, .ref h), (0, .ref b)]) : W p l e room_1 s m A9 below meth c H locs 100 2000 Q (F0 m 188 ls []) := by
  obtain ⟨hx, hb, hml, hown, hts, hr, hlocks, hK, hN⟩ := _root_.id C
  have hob := dk.2.1.ob
  refine lv_aload_n hx hb dL_law_188 rfl (lv_at hl 2 rfl) ?_
  refine lv_aload_n hx hb dL_law_189 rfl (lv_at hl 3 rfl) ?_
  refine lv_iload_n hx hb dL_law_190 rfl (lv_at hl 0 rfl) ?_
  refine lv_iconst (v := nI 1) hx hb dL_law_191 (by decide) ?_
  refine r_iaddN C dL_law_192 ?_
  refine r_sld C hX hbl hN0 hS (by omega) (by omega) dL_law_193 ?_
  refine lv_aload_n hx hb dL_law_194 rfl (lv_at hl 3 rfl) ?_
  refine lv_iload_n hx hb dL_law_195 rfl (lv_at hl 0 rfl) ?_
  refine lv_iconst (v := nI 2) hx hb dL_law_196 (by decide) ?_
  refine r_iaddN C dL_law_197 ?_
  refine r_sld C hX hbl hN0 hS (by omega) (by omega) dL_law_198 ?_
  refine r_Vi (As := [.int (xs (i + 1)), .int (xs (i + 2))]) (rest := []) C hM hS (c_limb l D kA N0 M h S (xs (i + 1)) (xs (i + 2)) dk) (hob) rfl gL_law_X5_limb rfl rfl rfl ⟨rfl, by decide +kernel, by decide +kernel, (by decide +kernel : (parseMethodDescriptor yX5_limb.desc).map (fun d => d.parameters.length) = some 2)⟩ ⟨Nat.le_of_ble_eq_true rfl, Nat.le_of_ble_eq_true rfl⟩ hl.1 rfl (Nat.le_of_ble_eq_true rfl) dL_law_199 ⟨Nat.le_of_ble_eq_true rfl, Nat.le_of_ble_eq_true rfl⟩ (fun v M1 H locs hp hM hS => ?_)
  obtain ⟨ev, eM1⟩ := hp
  rw [eM1] at hM
  have mk1 := mk
  obtain ⟨us, hob1⟩ := mk1.1
  refine lv_aload_n hx hb dL_law_202 rfl (lv_at hl 1 rfl) ?_
  refine lv_aload_n hx hb dL_law_203 rfl (lv_at hl 3 rfl) ?_
  refine lv_iload_n hx hb dL_law_204 rfl (lv_at hl 0 rfl) ?_
  refine lv_iconst (v := nI 1) hx hb dL_law_205 (by decide) ?_
  refine r_iaddN C dL_law_206 ?_
  refine r_sld C hX hbl hN0 hS (by omega) (by omega) dL_law_207 ?_
  refine lv_aload_n hx hb dL_law_208 rfl (lv_at hl 3 rfl) ?_
  refine lv_iload_n hx hb dL_law_209 rfl (lv_at hl 0 rfl) ?_
  refine lv_iconst (v := nI 2) hx hb dL_law_210 (by decide) ?_
  refine r_iaddN C dL_law_211 ?_
  refine r_sld C hX hbl hN0 hS (by omega) (by omega) dL_law_212 ?_
  refine r_Vi (As := [.int (xs (i + 1)), .int (xs (i + 2))]) (rest := [.int v]) C hM hS (c6_limb l D kA N0 M (h + 76) S (xs (i + 1)) (xs (i + 2)) dk.1 mk1) (hob1) rfl gL_law_X6_limb rfl rfl rfl ⟨rfl, by decide +kernel, by decide +kernel, (by decide +kernel : (parseMethodDescriptor yX6_limb.desc).map (fun d => d.parameters.length) = some 2)⟩ ⟨Nat.le_of_ble_eq_true rfl, Nat.le_of_ble_eq_true rfl⟩ hl.1 rfl (Nat.le_of_ble_eq_true rfl) dL_law_213 ⟨Nat.le_of_ble_eq_true rfl, Nat.le_of_ble_eq_true rfl⟩ (fun v2 M2 H locs hp hM hS => ?_)
  obtain ⟨ev2, eM2⟩ := hp
  rw [eM2] at hM
  rw [ev, ev2]
  refine lv_icmp_eq (tgt := 591) hx hb dL_law_216 (by decide) (fun hc => ?_) (fun hc => ?_)
  · exact hgo _ _ H locs ls dk mk hM hS hl
  · exact absurd rfl hc
set_option maxRecDepth 100000 in
theorem la_onCurve (C : xC p s m A9 meth c cL_law 4 rt9 RL wsL_law D vwCl (xT kA) N0) (hX : va_X b L xs s s.heap) (hbl : b < N0) (hN0 : N0 = s.heap.size) (hL : L ≤ 3073) (hi : i + 5 < L) (hgo : LGo p l e s m A9 below meth c Q D kA N0 h b i) (dk : Dk kA M h S) (mk : Mk kA M (h + 76) S) (hM : xW D vwCl N0 M H) (hS : va_S (xA N0) s.heap H locs) (hl : lv_has ls 4 [(3, .int (nI i)), (2, .ref (h + 76)), (1, .ref h), (0, .ref b)]) : W p l e room_1 s m A9 below meth c H locs 100 2000 Q (F0 m 221 ls []) := by
  obtain ⟨hx, hb, hml, hown, hts, hr, hlocks, hK, hN⟩ := _root_.id C
  have hob := dk.2.1.ob
  refine lv_aload_n hx hb dL_law_221 rfl (lv_at hl 2 rfl) ?_
  refine lv_aload_n hx hb dL_law_222 rfl (lv_at hl 3 rfl) ?_
  refine lv_iload_n hx hb dL_law_223 rfl (lv_at hl 0 rfl) ?_
  refine lv_iconst (v := nI 1) hx hb dL_law_224 (by decide) ?_
  refine r_iaddN C dL_law_225 ?_
  refine r_sld C hX hbl hN0 hS (by omega) (by omega) dL_law_226 ?_
  refine r_Vi (As := [.int (xs (i + 1))]) (rest := []) C hM hS (c_onCurve l D kA N0 M h S (xs (i + 1)) dk) (hob) rfl gL_law_X5_onCurve rfl rfl rfl ⟨rfl, by decide +kernel, by decide +kernel, (by decide +kernel : (parseMethodDescriptor yX5_onCurve.desc).map (fun d => d.parameters.length) = some 1)⟩ ⟨Nat.le_of_ble_eq_true rfl, Nat.le_of_ble_eq_true rfl⟩ hl.1 rfl (Nat.le_of_ble_eq_true rfl) dL_law_227 ⟨Nat.le_of_ble_eq_true rfl, Nat.le_of_ble_eq_true rfl⟩ (fun v M1 H locs hp hM hS => ?_)
  obtain ⟨ev, dk1, hf1⟩ := hp
  replace ev := spOn_of ev
  have mk1 := mk.kept (M1 := M1) (fun b9 b1 b2 => hf1 b9 (by omega))
  obtain ⟨us, hob1⟩ := mk1.1
  refine lv_aload_n hx hb dL_law_230 rfl (lv_at hl 1 rfl) ?_
  refine lv_aload_n hx hb dL_law_231 rfl (lv_at hl 3 rfl) ?_
  refine lv_iload_n hx hb dL_law_232 rfl (lv_at hl 0 rfl) ?_
  refine lv_iconst (v := nI 1) hx hb dL_law_233 (by decide) ?_
  refine r_iaddN C dL_law_234 ?_
  refine r_sld C hX hbl hN0 hS (by omega) (by omega) dL_law_235 ?_
  refine r_Vi (As := [.int (xs (i + 1))]) (rest := [.int v]) C hM hS (c6_onCurve l D kA N0 M1 (h + 76) S (xs (i + 1)) dk.1 mk1) (hob1) rfl gL_law_X6_onCurve rfl rfl rfl ⟨rfl, by decide +kernel, by decide +kernel, (by decide +kernel : (parseMethodDescriptor yX6_onCurve.desc).map (fun d => d.parameters.length) = some 1)⟩ ⟨Nat.le_of_ble_eq_true rfl, Nat.le_of_ble_eq_true rfl⟩ hl.1 rfl (Nat.le_of_ble_eq_true rfl) dL_law_236 ⟨Nat.le_of_ble_eq_true rfl, Nat.le_of_ble_eq_true rfl⟩ (fun v2 M2 H locs hp hM hS => ?_)
  obtain ⟨ev2, mk2, hf2⟩ := hp
  have dk2 := dk1.kept6 (M1 := M2) (fun b9 b1 b2 => hf2 b9 (by omega))
  rw [ev, ev2]
  refine lv_icmp_eq (tgt := 591) hx hb dL_law_239 (by decide) (fun hc => ?_) (fun hc => ?_)
  · exact hgo _ _ H locs ls dk2 mk2 hM hS hl
  · exact absurd rfl hc
set_option maxRecDepth 100000 in
theorem la_isInfinity (C : xC p s m A9 meth c cL_law 4 rt9 RL wsL_law D vwCl (xT kA) N0) (hX : va_X b L xs s s.heap) (hbl : b < N0) (hN0 : N0 = s.heap.size) (hL : L ≤ 3073) (hi : i + 5 < L) (hgo : LGo p l e s m A9 below meth c Q D kA N0 h b i) (dk : Dk kA M h S) (mk : Mk kA M (h + 76) S) (hM : xW D vwCl N0 M H) (hS : va_S (xA N0) s.heap H locs) (hl : lv_has ls 4 [(3, .int (nI i)), (2, .ref (h + 76)), (1, .ref h), (0, .ref b)]) : W p l e room_1 s m A9 below meth c H locs 100 2000 Q (F0 m 244 ls []) := by
  obtain ⟨hx, hb, hml, hown, hts, hr, hlocks, hK, hN⟩ := _root_.id C
  have hob := dk.2.1.ob
  refine lv_aload_n hx hb dL_law_244 rfl (lv_at hl 2 rfl) ?_
  refine lv_aload_n hx hb dL_law_245 rfl (lv_at hl 3 rfl) ?_
  refine lv_iload_n hx hb dL_law_246 rfl (lv_at hl 0 rfl) ?_
  refine lv_iconst (v := nI 1) hx hb dL_law_247 (by decide) ?_
  refine r_iaddN C dL_law_248 ?_
  refine r_sld C hX hbl hN0 hS (by omega) (by omega) dL_law_249 ?_
  refine r_Vi (As := [.int (xs (i + 1))]) (rest := []) C hM hS (c_isInfinity l D kA N0 M h S (xs (i + 1)) dk) (hob) rfl gL_law_X5_isInfinity rfl rfl rfl ⟨rfl, by decide +kernel, by decide +kernel, (by decide +kernel : (parseMethodDescriptor yX5_isInfinity.desc).map (fun d => d.parameters.length) = some 1)⟩ ⟨Nat.le_of_ble_eq_true rfl, Nat.le_of_ble_eq_true rfl⟩ hl.1 rfl (Nat.le_of_ble_eq_true rfl) dL_law_250 ⟨Nat.le_of_ble_eq_true rfl, Nat.le_of_ble_eq_true rfl⟩ (fun v M1 H locs hp hM hS => ?_)
  obtain ⟨ev, eM1⟩ := hp
  rw [eM1] at hM
  have mk1 := mk
  obtain ⟨us, hob1⟩ := mk1.1
  refine lv_aload_n hx hb dL_law_253 rfl (lv_at hl 1 rfl) ?_
  refine lv_aload_n hx hb dL_law_254 rfl (lv_at hl 3 rfl) ?_
  refine lv_iload_n hx hb dL_law_255 rfl (lv_at hl 0 rfl) ?_
  refine lv_iconst (v := nI 1) hx hb dL_law_256 (by decide) ?_
  refine r_iaddN C dL_law_257 ?_
  refine r_sld C hX hbl hN0 hS (by omega) (by omega) dL_law_258 ?_
  refine r_Vi (As := [.int (xs (i + 1))]) (rest := [.int v]) C hM hS (c6_isInfinity l D kA N0 M (h + 76) S (xs (i + 1)) dk.1 mk1) (hob1) rfl gL_law_X6_isInfinity rfl rfl rfl ⟨rfl, by decide +kernel, by decide +kernel, (by decide +kernel : (parseMethodDescriptor yX6_isInfinity.desc).map (fun d => d.parameters.length) = some 1)⟩ ⟨Nat.le_of_ble_eq_true rfl, Nat.le_of_ble_eq_true rfl⟩ hl.1 rfl (Nat.le_of_ble_eq_true rfl) dL_law_259 ⟨Nat.le_of_ble_eq_true rfl, Nat.le_of_ble_eq_true rfl⟩ (fun v2 M2 H locs hp hM hS => ?_)
  obtain ⟨ev2, eM2⟩ := hp
  rw [eM2] at hM
  rw [ev, ev2]
  refine lv_icmp_eq (tgt := 591) hx hb dL_law_262 (by decide) (fun hc => ?_) (fun hc => ?_)
  · exact hgo _ _ H locs ls dk mk hM hS hl
  · exact absurd rfl hc
set_option maxRecDepth 100000 in
theorem la_addPts (C : xC p s m A9 meth c cL_law 4 rt9 RL wsL_law D vwCl (xT kA) N0) (hX : va_X b L xs s s.heap) (hbl : b < N0) (hN0 : N0 = s.heap.size) (hL : L ≤ 3073) (hi : i + 5 < L) (hgo : LGo p l e s m A9 below meth c Q D kA N0 h b i) (dk : Dk kA M h S) (mk : Mk kA M (h + 76) S) (hM : xW D vwCl N0 M H) (hS : va_S (xA N0) s.heap H locs) (hl : lv_has ls 4 [(3, .int (nI i)), (2, .ref (h + 76)), (1, .ref h), (0, .ref b)]) : W p l e room_1 s m A9 below meth c H locs 100 2000 Q (F0 m 267 ls []) := by
  obtain ⟨hx, hb, hml, hown, hts, hr, hlocks, hK, hN⟩ := _root_.id C
  have hob := dk.2.1.ob
  refine lv_aload_n hx hb dL_law_267 rfl (lv_at hl 2 rfl) ?_
  refine lv_aload_n hx hb dL_law_268 rfl (lv_at hl 3 rfl) ?_
  refine lv_iload_n hx hb dL_law_269 rfl (lv_at hl 0 rfl) ?_
  refine lv_iconst (v := nI 1) hx hb dL_law_270 (by decide) ?_
  refine r_iaddN C dL_law_271 ?_
  refine r_sld C hX hbl hN0 hS (by omega) (by omega) dL_law_272 ?_
  refine lv_aload_n hx hb dL_law_273 rfl (lv_at hl 3 rfl) ?_
  refine lv_iload_n hx hb dL_law_274 rfl (lv_at hl 0 rfl) ?_
  refine lv_iconst (v := nI 2) hx hb dL_law_275 (by decide) ?_
  refine r_iaddN C dL_law_276 ?_
  refine r_sld C hX hbl hN0 hS (by omega) (by omega) dL_law_277 ?_
  refine lv_aload_n hx hb dL_law_278 rfl (lv_at hl 3 rfl) ?_
  refine lv_iload_n hx hb dL_law_279 rfl (lv_at hl 0 rfl) ?_
  refine lv_iconst (v := nI 3) hx hb dL_law_280 (by decide) ?_
  refine r_iaddN C dL_law_281 ?_
  refine r_sld C hX hbl hN0 hS (by omega) (by omega) dL_law_282 ?_
  refine r_Vi (As := [.int (xs (i + 1)), .int (xs (i + 2)), .int (xs (i + 3))]) (rest := []) C hM hS (c_addPts l D kA N0 M h S (xs (i + 1)) (xs (i + 2)) (xs (i + 3)) dk) (hob) rfl gL_law_X5_addPts rfl rfl rfl ⟨rfl, by decide +kernel, by decide +kernel, (by decide +kernel : (parseMethodDescriptor yX5_addPts.desc).map (fun d => d.parameters.length) = some 3)⟩ ⟨Nat.le_of_ble_eq_true rfl, Nat.le_of_ble_eq_true rfl⟩ hl.1 rfl (Nat.le_of_ble_eq_true rfl) dL_law_283 ⟨Nat.le_of_ble_eq_true rfl, Nat.le_of_ble_eq_true rfl⟩ (fun v M1 H locs hp hM hS => ?_)
  obtain ⟨ev, dk1, hf1⟩ := hp
  have mk1 := mk.kept (M1 := M1) (fun b9 b1 b2 => hf1 b9 (by omega))
  obtain ⟨us, hob1⟩ := mk1.1
  refine lv_aload_n hx hb dL_law_286 rfl (lv_at hl 1 rfl) ?_
  refine lv_aload_n hx hb dL_law_287 rfl (lv_at hl 3 rfl) ?_
  refine lv_iload_n hx hb dL_law_288 rfl (lv_at hl 0 rfl) ?_
  refine lv_iconst (v := nI 1) hx hb dL_law_289 (by decide) ?_
  refine r_iaddN C dL_law_290 ?_
  refine r_sld C hX hbl hN0 hS (by omega) (by omega) dL_law_291 ?_
  refine lv_aload_n hx hb dL_law_292 rfl (lv_at hl 3 rfl) ?_
  refine lv_iload_n hx hb dL_law_293 rfl (lv_at hl 0 rfl) ?_
  refine lv_iconst (v := nI 2) hx hb dL_law_294 (by decide) ?_
  refine r_iaddN C dL_law_295 ?_
  refine r_sld C hX hbl hN0 hS (by omega) (by omega) dL_law_296 ?_
  refine lv_aload_n hx hb dL_law_297 rfl (lv_at hl 3 rfl) ?_
  refine lv_iload_n hx hb dL_law_298 rfl (lv_at hl 0 rfl) ?_
  refine lv_iconst (v := nI 3) hx hb dL_law_299 (by decide) ?_
  refine r_iaddN C dL_law_300 ?_
  refine r_sld C hX hbl hN0 hS (by omega) (by omega) dL_law_301 ?_
  refine r_Vi (As := [.int (xs (i + 1)), .int (xs (i + 2)), .int (xs (i + 3))]) (rest := [.int v]) C hM hS (c6_addPts l D kA N0 M1 (h + 76) S (xs (i + 1)) (xs (i + 2)) (xs (i + 3)) dk.1 mk1) (hob1) rfl gL_law_X6_addPts rfl rfl rfl ⟨rfl, by decide +kernel, by decide +kernel, (by decide +kernel : (parseMethodDescriptor yX6_addPts.desc).map (fun d => d.parameters.length) = some 3)⟩ ⟨Nat.le_of_ble_eq_true rfl, Nat.le_of_ble_eq_true rfl⟩ hl.1 rfl (Nat.le_of_ble_eq_true rfl) dL_law_302 ⟨Nat.le_of_ble_eq_true rfl, Nat.le_of_ble_eq_true rfl⟩ (fun v2 M2 H locs hp hM hS => ?_)
  obtain ⟨ev2, mk2, hf2⟩ := hp
  have dk2 := dk1.kept6 (M1 := M2) (fun b9 b1 b2 => hf2 b9 (by omega))
  rw [ev, ev2]
  refine lv_icmp_eq (tgt := 591) hx hb dL_law_305 (by decide) (fun hc => ?_) (fun hc => ?_)
  · exact hgo _ _ H locs ls dk2 mk2 hM hS hl
  · exact absurd rfl hc
set_option maxRecDepth 100000 in
theorem la_dbl (C : xC p s m A9 meth c cL_law 4 rt9 RL wsL_law D vwCl (xT kA) N0) (hX : va_X b L xs s s.heap) (hbl : b < N0) (hN0 : N0 = s.heap.size) (hL : L ≤ 3073) (hi : i + 5 < L) (hgo : LGo p l e s m A9 below meth c Q D kA N0 h b i) (dk : Dk kA M h S) (mk : Mk kA M (h + 76) S) (hM : xW D vwCl N0 M H) (hS : va_S (xA N0) s.heap H locs) (hl : lv_has ls 4 [(3, .int (nI i)), (2, .ref (h + 76)), (1, .ref h), (0, .ref b)]) : W p l e room_1 s m A9 below meth c H locs 100 2000 Q (F0 m 310 ls []) := by
  obtain ⟨hx, hb, hml, hown, hts, hr, hlocks, hK, hN⟩ := _root_.id C
  have hob := dk.2.1.ob
  refine lv_aload_n hx hb dL_law_310 rfl (lv_at hl 2 rfl) ?_
  refine lv_aload_n hx hb dL_law_311 rfl (lv_at hl 3 rfl) ?_
  refine lv_iload_n hx hb dL_law_312 rfl (lv_at hl 0 rfl) ?_
  refine lv_iconst (v := nI 1) hx hb dL_law_313 (by decide) ?_
  refine r_iaddN C dL_law_314 ?_
  refine r_sld C hX hbl hN0 hS (by omega) (by omega) dL_law_315 ?_
  refine lv_aload_n hx hb dL_law_316 rfl (lv_at hl 3 rfl) ?_
  refine lv_iload_n hx hb dL_law_317 rfl (lv_at hl 0 rfl) ?_
  refine lv_iconst (v := nI 2) hx hb dL_law_318 (by decide) ?_
  refine r_iaddN C dL_law_319 ?_
  refine r_sld C hX hbl hN0 hS (by omega) (by omega) dL_law_320 ?_
  refine r_Vi (As := [.int (xs (i + 1)), .int (xs (i + 2))]) (rest := []) C hM hS (c_dbl l D kA N0 M h S (xs (i + 1)) (xs (i + 2)) dk) (hob) rfl gL_law_X5_dbl rfl rfl rfl ⟨rfl, by decide +kernel, by decide +kernel, (by decide +kernel : (parseMethodDescriptor yX5_dbl.desc).map (fun d => d.parameters.length) = some 2)⟩ ⟨Nat.le_of_ble_eq_true rfl, Nat.le_of_ble_eq_true rfl⟩ hl.1 rfl (Nat.le_of_ble_eq_true rfl) dL_law_321 ⟨Nat.le_of_ble_eq_true rfl, Nat.le_of_ble_eq_true rfl⟩ (fun v M1 H locs hp hM hS => ?_)
  obtain ⟨ev, dk1, hf1⟩ := hp
  have mk1 := mk.kept (M1 := M1) (fun b9 b1 b2 => hf1 b9 (by omega))
  obtain ⟨us, hob1⟩ := mk1.1
  refine lv_aload_n hx hb dL_law_324 rfl (lv_at hl 1 rfl) ?_
  refine lv_aload_n hx hb dL_law_325 rfl (lv_at hl 3 rfl) ?_
  refine lv_iload_n hx hb dL_law_326 rfl (lv_at hl 0 rfl) ?_
  refine lv_iconst (v := nI 1) hx hb dL_law_327 (by decide) ?_
  refine r_iaddN C dL_law_328 ?_
  refine r_sld C hX hbl hN0 hS (by omega) (by omega) dL_law_329 ?_
  refine lv_aload_n hx hb dL_law_330 rfl (lv_at hl 3 rfl) ?_
  refine lv_iload_n hx hb dL_law_331 rfl (lv_at hl 0 rfl) ?_
  refine lv_iconst (v := nI 2) hx hb dL_law_332 (by decide) ?_
  refine r_iaddN C dL_law_333 ?_
  refine r_sld C hX hbl hN0 hS (by omega) (by omega) dL_law_334 ?_
  refine r_Vi (As := [.int (xs (i + 1)), .int (xs (i + 2))]) (rest := [.int v]) C hM hS (c6_dbl l D kA N0 M1 (h + 76) S (xs (i + 1)) (xs (i + 2)) dk.1 mk1) (hob1) rfl gL_law_X6_dbl rfl rfl rfl ⟨rfl, by decide +kernel, by decide +kernel, (by decide +kernel : (parseMethodDescriptor yX6_dbl.desc).map (fun d => d.parameters.length) = some 2)⟩ ⟨Nat.le_of_ble_eq_true rfl, Nat.le_of_ble_eq_true rfl⟩ hl.1 rfl (Nat.le_of_ble_eq_true rfl) dL_law_335 ⟨Nat.le_of_ble_eq_true rfl, Nat.le_of_ble_eq_true rfl⟩ (fun v2 M2 H locs hp hM hS => ?_)
  obtain ⟨ev2, mk2, hf2⟩ := hp
  have dk2 := dk1.kept6 (M1 := M2) (fun b9 b1 b2 => hf2 b9 (by omega))
  rw [ev, ev2]
  refine lv_icmp_eq (tgt := 591) hx hb dL_law_338 (by decide) (fun hc => ?_) (fun hc => ?_)
  · exact hgo _ _ H locs ls dk2 mk2 hM hS hl
  · exact absurd rfl hc
set_option maxRecDepth 100000 in
theorem la_scalarMul (C : xC p s m A9 meth c cL_law 4 rt9 RL wsL_law D vwCl (xT kA) N0) (hX : va_X b L xs s s.heap) (hbl : b < N0) (hN0 : N0 = s.heap.size) (hL : L ≤ 3073) (hi : i + 5 < L) (hgo : LGo p l e s m A9 below meth c Q D kA N0 h b i) (dk : Dk kA M h S) (mk : Mk kA M (h + 76) S) (hM : xW D vwCl N0 M H) (hS : va_S (xA N0) s.heap H locs) (hl : lv_has ls 4 [(3, .int (nI i)), (2, .ref (h + 76)), (1, .ref h), (0, .ref b)]) : W p l e room_1 s m A9 below meth c H locs 100 2000 Q (F0 m 343 ls []) := by
  obtain ⟨hx, hb, hml, hown, hts, hr, hlocks, hK, hN⟩ := _root_.id C
  have hob := dk.2.1.ob
  refine lv_aload_n hx hb dL_law_343 rfl (lv_at hl 2 rfl) ?_
  refine lv_aload_n hx hb dL_law_344 rfl (lv_at hl 3 rfl) ?_
  refine lv_iload_n hx hb dL_law_345 rfl (lv_at hl 0 rfl) ?_
  refine lv_iconst (v := nI 1) hx hb dL_law_346 (by decide) ?_
  refine r_iaddN C dL_law_347 ?_
  refine r_sld C hX hbl hN0 hS (by omega) (by omega) dL_law_348 ?_
  refine lv_aload_n hx hb dL_law_349 rfl (lv_at hl 3 rfl) ?_
  refine lv_iload_n hx hb dL_law_350 rfl (lv_at hl 0 rfl) ?_
  refine lv_iconst (v := nI 2) hx hb dL_law_351 (by decide) ?_
  refine r_iaddN C dL_law_352 ?_
  refine r_sld C hX hbl hN0 hS (by omega) (by omega) dL_law_353 ?_
  refine lv_aload_n hx hb dL_law_354 rfl (lv_at hl 3 rfl) ?_
  refine lv_iload_n hx hb dL_law_355 rfl (lv_at hl 0 rfl) ?_
  refine lv_iconst (v := nI 3) hx hb dL_law_356 (by decide) ?_
  refine r_iaddN C dL_law_357 ?_
  refine r_sld C hX hbl hN0 hS (by omega) (by omega) dL_law_358 ?_
  refine r_Vi (As := [.int (xs (i + 1)), .int (xs (i + 2)), .int (xs (i + 3))]) (rest := []) C hM hS (c_scalarMul l D kA N0 M h S (xs (i + 1)) (xs (i + 2)) (xs (i + 3)) dk) (hob) rfl gL_law_X5_scalarMul rfl rfl rfl ⟨rfl, by decide +kernel, by decide +kernel, (by decide +kernel : (parseMethodDescriptor yX5_scalarMul.desc).map (fun d => d.parameters.length) = some 3)⟩ ⟨Nat.le_of_ble_eq_true rfl, Nat.le_of_ble_eq_true rfl⟩ hl.1 rfl (Nat.le_of_ble_eq_true rfl) dL_law_359 ⟨Nat.le_of_ble_eq_true rfl, Nat.le_of_ble_eq_true rfl⟩ (fun v M1 H locs hp hM hS => ?_)
  obtain ⟨ev, dk1, hf1⟩ := hp
  have mk1 := mk.kept (M1 := M1) (fun b9 b1 b2 => hf1 b9 (by omega))
  obtain ⟨us, hob1⟩ := mk1.1
  refine lv_aload_n hx hb dL_law_362 rfl (lv_at hl 1 rfl) ?_
  refine lv_aload_n hx hb dL_law_363 rfl (lv_at hl 3 rfl) ?_
  refine lv_iload_n hx hb dL_law_364 rfl (lv_at hl 0 rfl) ?_
  refine lv_iconst (v := nI 1) hx hb dL_law_365 (by decide) ?_
  refine r_iaddN C dL_law_366 ?_
  refine r_sld C hX hbl hN0 hS (by omega) (by omega) dL_law_367 ?_
  refine lv_aload_n hx hb dL_law_368 rfl (lv_at hl 3 rfl) ?_
  refine lv_iload_n hx hb dL_law_369 rfl (lv_at hl 0 rfl) ?_
  refine lv_iconst (v := nI 2) hx hb dL_law_370 (by decide) ?_
  refine r_iaddN C dL_law_371 ?_
  refine r_sld C hX hbl hN0 hS (by omega) (by omega) dL_law_372 ?_
  refine lv_aload_n hx hb dL_law_373 rfl (lv_at hl 3 rfl) ?_
  refine lv_iload_n hx hb dL_law_374 rfl (lv_at hl 0 rfl) ?_
  refine lv_iconst (v := nI 3) hx hb dL_law_375 (by decide) ?_
  refine r_iaddN C dL_law_376 ?_
  refine r_sld C hX hbl hN0 hS (by omega) (by omega) dL_law_377 ?_
  refine r_Vi (As := [.int (xs (i + 1)), .int (xs (i + 2)), .int (xs (i + 3))]) (rest := [.int v]) C hM hS (c6_scalarMul l D kA N0 M1 (h + 76) S (xs (i + 1)) (xs (i + 2)) (xs (i + 3)) dk.1 mk1) (hob1) rfl gL_law_X6_scalarMul rfl rfl rfl ⟨rfl, by decide +kernel, by decide +kernel, (by decide +kernel : (parseMethodDescriptor yX6_scalarMul.desc).map (fun d => d.parameters.length) = some 3)⟩ ⟨Nat.le_of_ble_eq_true rfl, Nat.le_of_ble_eq_true rfl⟩ hl.1 rfl (Nat.le_of_ble_eq_true rfl) dL_law_378 ⟨Nat.le_of_ble_eq_true rfl, Nat.le_of_ble_eq_true rfl⟩ (fun v2 M2 H locs hp hM hS => ?_)
  obtain ⟨ev2, mk2, hf2⟩ := hp
  have dk2 := dk1.kept6 (M1 := M2) (fun b9 b1 b2 => hf2 b9 (by omega))
  rw [ev, ev2]
  refine lv_icmp_eq (tgt := 591) hx hb dL_law_381 (by decide) (fun hc => ?_) (fun hc => ?_)
  · exact hgo _ _ H locs ls dk2 mk2 hM hS hl
  · exact absurd rfl hc
set_option maxRecDepth 100000 in
theorem la_negate (C : xC p s m A9 meth c cL_law 4 rt9 RL wsL_law D vwCl (xT kA) N0) (hX : va_X b L xs s s.heap) (hbl : b < N0) (hN0 : N0 = s.heap.size) (hL : L ≤ 3073) (hi : i + 5 < L) (hgo : LGo p l e s m A9 below meth c Q D kA N0 h b i) (dk : Dk kA M h S) (mk : Mk kA M (h + 76) S) (hM : xW D vwCl N0 M H) (hS : va_S (xA N0) s.heap H locs) (hl : lv_has ls 4 [(3, .int (nI i)), (2, .ref (h + 76)), (1, .ref h), (0, .ref b)]) : W p l e room_1 s m A9 below meth c H locs 100 2000 Q (F0 m 386 ls []) := by
  obtain ⟨hx, hb, hml, hown, hts, hr, hlocks, hK, hN⟩ := _root_.id C
  have hob := dk.2.1.ob
  refine lv_aload_n hx hb dL_law_386 rfl (lv_at hl 2 rfl) ?_
  refine lv_aload_n hx hb dL_law_387 rfl (lv_at hl 3 rfl) ?_
  refine lv_iload_n hx hb dL_law_388 rfl (lv_at hl 0 rfl) ?_
  refine lv_iconst (v := nI 1) hx hb dL_law_389 (by decide) ?_
  refine r_iaddN C dL_law_390 ?_
  refine r_sld C hX hbl hN0 hS (by omega) (by omega) dL_law_391 ?_
  refine lv_aload_n hx hb dL_law_392 rfl (lv_at hl 3 rfl) ?_
  refine lv_iload_n hx hb dL_law_393 rfl (lv_at hl 0 rfl) ?_
  refine lv_iconst (v := nI 2) hx hb dL_law_394 (by decide) ?_
  refine r_iaddN C dL_law_395 ?_
  refine r_sld C hX hbl hN0 hS (by omega) (by omega) dL_law_396 ?_
  refine r_Vi (As := [.int (xs (i + 1)), .int (xs (i + 2))]) (rest := []) C hM hS (c_negate l D kA N0 M h S (xs (i + 1)) (xs (i + 2)) dk) (hob) rfl gL_law_X5_negate rfl rfl rfl ⟨rfl, by decide +kernel, by decide +kernel, (by decide +kernel : (parseMethodDescriptor yX5_negate.desc).map (fun d => d.parameters.length) = some 2)⟩ ⟨Nat.le_of_ble_eq_true rfl, Nat.le_of_ble_eq_true rfl⟩ hl.1 rfl (Nat.le_of_ble_eq_true rfl) dL_law_397 ⟨Nat.le_of_ble_eq_true rfl, Nat.le_of_ble_eq_true rfl⟩ (fun v M1 H locs hp hM hS => ?_)
  obtain ⟨ev, dk1, hf1⟩ := hp
  have mk1 := mk.kept (M1 := M1) (fun b9 b1 b2 => hf1 b9 (by omega))
  obtain ⟨us, hob1⟩ := mk1.1
  refine lv_aload_n hx hb dL_law_400 rfl (lv_at hl 1 rfl) ?_
  refine lv_aload_n hx hb dL_law_401 rfl (lv_at hl 3 rfl) ?_
  refine lv_iload_n hx hb dL_law_402 rfl (lv_at hl 0 rfl) ?_
  refine lv_iconst (v := nI 1) hx hb dL_law_403 (by decide) ?_
  refine r_iaddN C dL_law_404 ?_
  refine r_sld C hX hbl hN0 hS (by omega) (by omega) dL_law_405 ?_
  refine lv_aload_n hx hb dL_law_406 rfl (lv_at hl 3 rfl) ?_
  refine lv_iload_n hx hb dL_law_407 rfl (lv_at hl 0 rfl) ?_
  refine lv_iconst (v := nI 2) hx hb dL_law_408 (by decide) ?_
  refine r_iaddN C dL_law_409 ?_
  refine r_sld C hX hbl hN0 hS (by omega) (by omega) dL_law_410 ?_
  refine r_Vi (As := [.int (xs (i + 1)), .int (xs (i + 2))]) (rest := [.int v]) C hM hS (c6_negate l D kA N0 M1 (h + 76) S (xs (i + 1)) (xs (i + 2)) dk.1 mk1) (hob1) rfl gL_law_X6_negate rfl rfl rfl ⟨rfl, by decide +kernel, by decide +kernel, (by decide +kernel : (parseMethodDescriptor yX6_negate.desc).map (fun d => d.parameters.length) = some 2)⟩ ⟨Nat.le_of_ble_eq_true rfl, Nat.le_of_ble_eq_true rfl⟩ hl.1 rfl (Nat.le_of_ble_eq_true rfl) dL_law_411 ⟨Nat.le_of_ble_eq_true rfl, Nat.le_of_ble_eq_true rfl⟩ (fun v2 M2 H locs hp hM hS => ?_)
  obtain ⟨ev2, mk2, hf2⟩ := hp
  have dk2 := dk1.kept6 (M1 := M2) (fun b9 b1 b2 => hf2 b9 (by omega))
  rw [ev, ev2]
  refine lv_icmp_eq (tgt := 591) hx hb dL_law_414 (by decide) (fun hc => ?_) (fun hc => ?_)
  · exact hgo _ _ H locs ls dk2 mk2 hM hS hl
  · exact absurd rfl hc
set_option maxRecDepth 100000 in
theorem la_isSame (C : xC p s m A9 meth c cL_law 4 rt9 RL wsL_law D vwCl (xT kA) N0) (hX : va_X b L xs s s.heap) (hbl : b < N0) (hN0 : N0 = s.heap.size) (hL : L ≤ 3073) (hi : i + 5 < L) (hgo : LGo p l e s m A9 below meth c Q D kA N0 h b i) (dk : Dk kA M h S) (mk : Mk kA M (h + 76) S) (hM : xW D vwCl N0 M H) (hS : va_S (xA N0) s.heap H locs) (hl : lv_has ls 4 [(3, .int (nI i)), (2, .ref (h + 76)), (1, .ref h), (0, .ref b)]) : W p l e room_1 s m A9 below meth c H locs 100 2000 Q (F0 m 419 ls []) := by
  obtain ⟨hx, hb, hml, hown, hts, hr, hlocks, hK, hN⟩ := _root_.id C
  have hob := dk.2.1.ob
  refine lv_aload_n hx hb dL_law_419 rfl (lv_at hl 2 rfl) ?_
  refine lv_aload_n hx hb dL_law_420 rfl (lv_at hl 3 rfl) ?_
  refine lv_iload_n hx hb dL_law_421 rfl (lv_at hl 0 rfl) ?_
  refine lv_iconst (v := nI 1) hx hb dL_law_422 (by decide) ?_
  refine r_iaddN C dL_law_423 ?_
  refine r_sld C hX hbl hN0 hS (by omega) (by omega) dL_law_424 ?_
  refine lv_aload_n hx hb dL_law_425 rfl (lv_at hl 3 rfl) ?_
  refine lv_iload_n hx hb dL_law_426 rfl (lv_at hl 0 rfl) ?_
  refine lv_iconst (v := nI 2) hx hb dL_law_427 (by decide) ?_
  refine r_iaddN C dL_law_428 ?_
  refine r_sld C hX hbl hN0 hS (by omega) (by omega) dL_law_429 ?_
  refine r_Vi (As := [.int (xs (i + 1)), .int (xs (i + 2))]) (rest := []) C hM hS (c_isSame l D kA N0 M h S (xs (i + 1)) (xs (i + 2)) dk) (hob) rfl gL_law_X5_isSame rfl rfl rfl ⟨rfl, by decide +kernel, by decide +kernel, (by decide +kernel : (parseMethodDescriptor yX5_isSame.desc).map (fun d => d.parameters.length) = some 2)⟩ ⟨Nat.le_of_ble_eq_true rfl, Nat.le_of_ble_eq_true rfl⟩ hl.1 rfl (Nat.le_of_ble_eq_true rfl) dL_law_430 ⟨Nat.le_of_ble_eq_true rfl, Nat.le_of_ble_eq_true rfl⟩ (fun v M1 H locs hp hM hS => ?_)
  obtain ⟨ev, eM1⟩ := hp
  rw [eM1] at hM
  have mk1 := mk
  obtain ⟨us, hob1⟩ := mk1.1
  refine lv_aload_n hx hb dL_law_433 rfl (lv_at hl 1 rfl) ?_
  refine lv_aload_n hx hb dL_law_434 rfl (lv_at hl 3 rfl) ?_
  refine lv_iload_n hx hb dL_law_435 rfl (lv_at hl 0 rfl) ?_
  refine lv_iconst (v := nI 1) hx hb dL_law_436 (by decide) ?_
  refine r_iaddN C dL_law_437 ?_
  refine r_sld C hX hbl hN0 hS (by omega) (by omega) dL_law_438 ?_
  refine lv_aload_n hx hb dL_law_439 rfl (lv_at hl 3 rfl) ?_
  refine lv_iload_n hx hb dL_law_440 rfl (lv_at hl 0 rfl) ?_
  refine lv_iconst (v := nI 2) hx hb dL_law_441 (by decide) ?_
  refine r_iaddN C dL_law_442 ?_
  refine r_sld C hX hbl hN0 hS (by omega) (by omega) dL_law_443 ?_
  refine r_Vi (As := [.int (xs (i + 1)), .int (xs (i + 2))]) (rest := [.int v]) C hM hS (c6_isSame l D kA N0 M (h + 76) S (xs (i + 1)) (xs (i + 2)) dk.1 mk1) (hob1) rfl gL_law_X6_isSame rfl rfl rfl ⟨rfl, by decide +kernel, by decide +kernel, (by decide +kernel : (parseMethodDescriptor yX6_isSame.desc).map (fun d => d.parameters.length) = some 2)⟩ ⟨Nat.le_of_ble_eq_true rfl, Nat.le_of_ble_eq_true rfl⟩ hl.1 rfl (Nat.le_of_ble_eq_true rfl) dL_law_444 ⟨Nat.le_of_ble_eq_true rfl, Nat.le_of_ble_eq_true rfl⟩ (fun v2 M2 H locs hp hM hS => ?_)
  obtain ⟨ev2, eM2⟩ := hp
  rw [eM2] at hM
  rw [ev, ev2]
  refine lv_icmp_eq (tgt := 591) hx hb dL_law_447 (by decide) (fun hc => ?_) (fun hc => ?_)
  · exact hgo _ _ H locs ls dk mk hM hS hl
  · exact absurd rfl hc
set_option maxRecDepth 100000 in
theorem la_verify (C : xC p s m A9 meth c cL_law 4 rt9 RL wsL_law D vwCl (xT kA) N0) (hX : va_X b L xs s s.heap) (hbl : b < N0) (hN0 : N0 = s.heap.size) (hL : L ≤ 3073) (hi : i + 5 < L) (hgo : LGo p l e s m A9 below meth c Q D kA N0 h b i) (dk : Dk kA M h S) (mk : Mk kA M (h + 76) S) (hM : xW D vwCl N0 M H) (hS : va_S (xA N0) s.heap H locs) (hl : lv_has ls 4 [(3, .int (nI i)), (2, .ref (h + 76)), (1, .ref h), (0, .ref b)]) : W p l e room_1 s m A9 below meth c H locs 100 2000 Q (F0 m 452 ls []) := by
  obtain ⟨hx, hb, hml, hown, hts, hr, hlocks, hK, hN⟩ := _root_.id C
  have hob := dk.2.1.ob
  refine lv_aload_n hx hb dL_law_452 rfl (lv_at hl 2 rfl) ?_
  refine lv_aload_n hx hb dL_law_453 rfl (lv_at hl 3 rfl) ?_
  refine lv_iload_n hx hb dL_law_454 rfl (lv_at hl 0 rfl) ?_
  refine lv_iconst (v := nI 1) hx hb dL_law_455 (by decide) ?_
  refine r_iaddN C dL_law_456 ?_
  refine r_sld C hX hbl hN0 hS (by omega) (by omega) dL_law_457 ?_
  refine lv_aload_n hx hb dL_law_458 rfl (lv_at hl 3 rfl) ?_
  refine lv_iload_n hx hb dL_law_459 rfl (lv_at hl 0 rfl) ?_
  refine lv_iconst (v := nI 2) hx hb dL_law_460 (by decide) ?_
  refine r_iaddN C dL_law_461 ?_
  refine r_sld C hX hbl hN0 hS (by omega) (by omega) dL_law_462 ?_
  refine lv_aload_n hx hb dL_law_463 rfl (lv_at hl 3 rfl) ?_
  refine lv_iload_n hx hb dL_law_464 rfl (lv_at hl 0 rfl) ?_
  refine lv_iconst (v := nI 3) hx hb dL_law_465 (by decide) ?_
  refine r_iaddN C dL_law_466 ?_
  refine r_sld C hX hbl hN0 hS (by omega) (by omega) dL_law_467 ?_
  refine lv_aload_n hx hb dL_law_468 rfl (lv_at hl 3 rfl) ?_
  refine lv_iload_n hx hb dL_law_469 rfl (lv_at hl 0 rfl) ?_
  refine lv_iconst (v := nI 4) hx hb dL_law_470 (by decide) ?_
  refine r_iaddN C dL_law_471 ?_
  refine r_sld C hX hbl hN0 hS (by omega) (by omega) dL_law_472 ?_
  refine lv_aload_n hx hb dL_law_473 rfl (lv_at hl 3 rfl) ?_
  refine lv_iload_n hx hb dL_law_474 rfl (lv_at hl 0 rfl) ?_
  refine lv_iconst (v := nI 5) hx hb dL_law_475 (by decide) ?_
  refine r_iaddN C dL_law_476 ?_
  refine r_sld C hX hbl hN0 hS (by omega) (by omega) dL_law_477 ?_
  refine r_Vi (As := [.int (xs (i + 1)), .int (xs (i + 2)), .int (xs (i + 3)), .int (xs (i + 4)), .int (xs (i + 5))]) (rest := []) C hM hS (c_verify l D kA N0 M h S (xs (i + 1)) (xs (i + 2)) (xs (i + 3)) (xs (i + 4)) (xs (i + 5)) dk) (hob) rfl gL_law_X5_verify rfl rfl rfl ⟨rfl, by decide +kernel, by decide +kernel, (by decide +kernel : (parseMethodDescriptor yX5_verify.desc).map (fun d => d.parameters.length) = some 5)⟩ ⟨Nat.le_of_ble_eq_true rfl, Nat.le_of_ble_eq_true rfl⟩ hl.1 rfl (Nat.le_of_ble_eq_true rfl) dL_law_478 ⟨Nat.le_of_ble_eq_true rfl, Nat.le_of_ble_eq_true rfl⟩ (fun v M1 H locs hp hM hS => ?_)
  obtain ⟨ev, dk1, hf1⟩ := hp
  have mk1 := mk.kept (M1 := M1) (fun b9 b1 b2 => hf1 b9 (by omega))
  obtain ⟨us, hob1⟩ := mk1.1
  refine lv_aload_n hx hb dL_law_481 rfl (lv_at hl 1 rfl) ?_
  refine lv_aload_n hx hb dL_law_482 rfl (lv_at hl 3 rfl) ?_
  refine lv_iload_n hx hb dL_law_483 rfl (lv_at hl 0 rfl) ?_
  refine lv_iconst (v := nI 1) hx hb dL_law_484 (by decide) ?_
  refine r_iaddN C dL_law_485 ?_
  refine r_sld C hX hbl hN0 hS (by omega) (by omega) dL_law_486 ?_
  refine lv_aload_n hx hb dL_law_487 rfl (lv_at hl 3 rfl) ?_
  refine lv_iload_n hx hb dL_law_488 rfl (lv_at hl 0 rfl) ?_
  refine lv_iconst (v := nI 2) hx hb dL_law_489 (by decide) ?_
  refine r_iaddN C dL_law_490 ?_
  refine r_sld C hX hbl hN0 hS (by omega) (by omega) dL_law_491 ?_
  refine lv_aload_n hx hb dL_law_492 rfl (lv_at hl 3 rfl) ?_
  refine lv_iload_n hx hb dL_law_493 rfl (lv_at hl 0 rfl) ?_
  refine lv_iconst (v := nI 3) hx hb dL_law_494 (by decide) ?_
  refine r_iaddN C dL_law_495 ?_
  refine r_sld C hX hbl hN0 hS (by omega) (by omega) dL_law_496 ?_
  refine lv_aload_n hx hb dL_law_497 rfl (lv_at hl 3 rfl) ?_
  refine lv_iload_n hx hb dL_law_498 rfl (lv_at hl 0 rfl) ?_
  refine lv_iconst (v := nI 4) hx hb dL_law_499 (by decide) ?_
  refine r_iaddN C dL_law_500 ?_
  refine r_sld C hX hbl hN0 hS (by omega) (by omega) dL_law_501 ?_
  refine lv_aload_n hx hb dL_law_502 rfl (lv_at hl 3 rfl) ?_
  refine lv_iload_n hx hb dL_law_503 rfl (lv_at hl 0 rfl) ?_
  refine lv_iconst (v := nI 5) hx hb dL_law_504 (by decide) ?_
  refine r_iaddN C dL_law_505 ?_
  refine r_sld C hX hbl hN0 hS (by omega) (by omega) dL_law_506 ?_
  refine r_Vi (As := [.int (xs (i + 1)), .int (xs (i + 2)), .int (xs (i + 3)), .int (xs (i + 4)), .int (xs (i + 5))]) (rest := [.int v]) C hM hS (c6_verify l D kA N0 M1 (h + 76) S (xs (i + 1)) (xs (i + 2)) (xs (i + 3)) (xs (i + 4)) (xs (i + 5)) dk.1 mk1) (hob1) rfl gL_law_X6_verify rfl rfl rfl ⟨rfl, by decide +kernel, by decide +kernel, (by decide +kernel : (parseMethodDescriptor yX6_verify.desc).map (fun d => d.parameters.length) = some 5)⟩ ⟨Nat.le_of_ble_eq_true rfl, Nat.le_of_ble_eq_true rfl⟩ hl.1 rfl (Nat.le_of_ble_eq_true rfl) dL_law_507 ⟨Nat.le_of_ble_eq_true rfl, Nat.le_of_ble_eq_true rfl⟩ (fun v2 M2 H locs hp hM hS => ?_)
  obtain ⟨ev2, mk2, hf2⟩ := hp
  have dk2 := dk1.kept6 (M1 := M2) (fun b9 b1 b2 => hf2 b9 (by omega))
  rw [ev, ev2]
  refine lv_icmp_eq (tgt := 591) hx hb dL_law_510 (by decide) (fun hc => ?_) (fun hc => ?_)
  · exact hgo _ _ H locs ls dk2 mk2 hM hS hl
  · exact absurd rfl hc
set_option maxRecDepth 100000 in
theorem la_reckon (C : xC p s m A9 meth c cL_law 4 rt9 RL wsL_law D vwCl (xT kA) N0) (hX : va_X b L xs s s.heap) (hbl : b < N0) (hN0 : N0 = s.heap.size) (hL : L ≤ 3073) (hi : i + 5 < L) (hgo : LGo p l e s m A9 below meth c Q D kA N0 h b i) (dk : Dk kA M h S) (mk : Mk kA M (h + 76) S) (hM : xW D vwCl N0 M H) (hS : va_S (xA N0) s.heap H locs) (hl : lv_has ls 4 [(3, .int (nI i)), (2, .ref (h + 76)), (1, .ref h), (0, .ref b)]) : W p l e room_1 s m A9 below meth c H locs 100 2000 Q (F0 m 515 ls []) := by
  obtain ⟨hx, hb, hml, hown, hts, hr, hlocks, hK, hN⟩ := _root_.id C
  have hob := dk.2.1.ob
  refine lv_aload_n hx hb dL_law_515 rfl (lv_at hl 2 rfl) ?_
  refine lv_aload_n hx hb dL_law_516 rfl (lv_at hl 3 rfl) ?_
  refine lv_iload_n hx hb dL_law_517 rfl (lv_at hl 0 rfl) ?_
  refine lv_iconst (v := nI 1) hx hb dL_law_518 (by decide) ?_
  refine r_iaddN C dL_law_519 ?_
  refine r_sld C hX hbl hN0 hS (by omega) (by omega) dL_law_520 ?_
  refine lv_aload_n hx hb dL_law_521 rfl (lv_at hl 3 rfl) ?_
  refine lv_iload_n hx hb dL_law_522 rfl (lv_at hl 0 rfl) ?_
  refine lv_iconst (v := nI 2) hx hb dL_law_523 (by decide) ?_
  refine r_iaddN C dL_law_524 ?_
  refine r_sld C hX hbl hN0 hS (by omega) (by omega) dL_law_525 ?_
  refine lv_aload_n hx hb dL_law_526 rfl (lv_at hl 3 rfl) ?_
  refine lv_iload_n hx hb dL_law_527 rfl (lv_at hl 0 rfl) ?_
  refine lv_iconst (v := nI 3) hx hb dL_law_528 (by decide) ?_
  refine r_iaddN C dL_law_529 ?_
  refine r_sld C hX hbl hN0 hS (by omega) (by omega) dL_law_530 ?_
  refine lv_aload_n hx hb dL_law_531 rfl (lv_at hl 3 rfl) ?_
  refine lv_iload_n hx hb dL_law_532 rfl (lv_at hl 0 rfl) ?_
  refine lv_iconst (v := nI 4) hx hb dL_law_533 (by decide) ?_
  refine r_iaddN C dL_law_534 ?_
  refine r_sld C hX hbl hN0 hS (by omega) (by omega) dL_law_535 ?_
  refine r_Vi (As := [.int (xs (i + 1)), .int (xs (i + 2)), .int (xs (i + 3)), .int (xs (i + 4))]) (rest := []) C hM hS (c_reckon l D kA N0 M h S (xs (i + 1)) (xs (i + 2)) (xs (i + 3)) (xs (i + 4)) dk) (hob) rfl gL_law_X5_reckon rfl rfl rfl ⟨rfl, by decide +kernel, by decide +kernel, (by decide +kernel : (parseMethodDescriptor yX5_reckon.desc).map (fun d => d.parameters.length) = some 4)⟩ ⟨Nat.le_of_ble_eq_true rfl, Nat.le_of_ble_eq_true rfl⟩ hl.1 rfl (Nat.le_of_ble_eq_true rfl) dL_law_536 ⟨Nat.le_of_ble_eq_true rfl, Nat.le_of_ble_eq_true rfl⟩ (fun v M1 H locs hp hM hS => ?_)
  obtain ⟨ev, dk1, hf1⟩ := hp
  have mk1 := mk.kept (M1 := M1) (fun b9 b1 b2 => hf1 b9 (by omega))
  obtain ⟨us, hob1⟩ := mk1.1
  refine lv_aload_n hx hb dL_law_539 rfl (lv_at hl 1 rfl) ?_
  refine lv_aload_n hx hb dL_law_540 rfl (lv_at hl 3 rfl) ?_
  refine lv_iload_n hx hb dL_law_541 rfl (lv_at hl 0 rfl) ?_
  refine lv_iconst (v := nI 1) hx hb dL_law_542 (by decide) ?_
  refine r_iaddN C dL_law_543 ?_
  refine r_sld C hX hbl hN0 hS (by omega) (by omega) dL_law_544 ?_
  refine lv_aload_n hx hb dL_law_545 rfl (lv_at hl 3 rfl) ?_
  refine lv_iload_n hx hb dL_law_546 rfl (lv_at hl 0 rfl) ?_
  refine lv_iconst (v := nI 2) hx hb dL_law_547 (by decide) ?_
  refine r_iaddN C dL_law_548 ?_
  refine r_sld C hX hbl hN0 hS (by omega) (by omega) dL_law_549 ?_
  refine lv_aload_n hx hb dL_law_550 rfl (lv_at hl 3 rfl) ?_
  refine lv_iload_n hx hb dL_law_551 rfl (lv_at hl 0 rfl) ?_
  refine lv_iconst (v := nI 3) hx hb dL_law_552 (by decide) ?_
  refine r_iaddN C dL_law_553 ?_
  refine r_sld C hX hbl hN0 hS (by omega) (by omega) dL_law_554 ?_
  refine lv_aload_n hx hb dL_law_555 rfl (lv_at hl 3 rfl) ?_
  refine lv_iload_n hx hb dL_law_556 rfl (lv_at hl 0 rfl) ?_
  refine lv_iconst (v := nI 4) hx hb dL_law_557 (by decide) ?_
  refine r_iaddN C dL_law_558 ?_
  refine r_sld C hX hbl hN0 hS (by omega) (by omega) dL_law_559 ?_
  refine r_Vi (As := [.int (xs (i + 1)), .int (xs (i + 2)), .int (xs (i + 3)), .int (xs (i + 4))]) (rest := [.int v]) C hM hS (c6_reckon l D kA N0 M1 (h + 76) S (xs (i + 1)) (xs (i + 2)) (xs (i + 3)) (xs (i + 4)) dk.1 mk1) (hob1) rfl gL_law_X6_reckon rfl rfl rfl ⟨rfl, by decide +kernel, by decide +kernel, (by decide +kernel : (parseMethodDescriptor yX6_reckon.desc).map (fun d => d.parameters.length) = some 4)⟩ ⟨Nat.le_of_ble_eq_true rfl, Nat.le_of_ble_eq_true rfl⟩ hl.1 rfl (Nat.le_of_ble_eq_true rfl) dL_law_560 ⟨Nat.le_of_ble_eq_true rfl, Nat.le_of_ble_eq_true rfl⟩ (fun v2 M2 H locs hp hM hS => ?_)
  obtain ⟨ev2, mk2, hf2⟩ := hp
  have dk2 := dk1.kept6 (M1 := M2) (fun b9 b1 b2 => hf2 b9 (by omega))
  rw [ev, ev2]
  refine lv_icmp_eq (tgt := 591) hx hb dL_law_563 (by decide) (fun hc => ?_) (fun hc => ?_)
  · exact hgo _ _ H locs ls dk2 mk2 hM hS hl
  · exact absurd rfl hc
set_option maxRecDepth 100000 in
theorem la_state (C : xC p s m A9 meth c cL_law 4 rt9 RL wsL_law D vwCl (xT kA) N0) (hX : va_X b L xs s s.heap) (hbl : b < N0) (hN0 : N0 = s.heap.size) (hL : L ≤ 3073) (hi : i + 5 < L) (hgo : LGo p l e s m A9 below meth c Q D kA N0 h b i) (dk : Dk kA M h S) (mk : Mk kA M (h + 76) S) (hM : xW D vwCl N0 M H) (hS : va_S (xA N0) s.heap H locs) (hl : lv_has ls 4 [(3, .int (nI i)), (2, .ref (h + 76)), (1, .ref h), (0, .ref b)]) : W p l e room_1 s m A9 below meth c H locs 100 2000 Q (F0 m 568 ls []) := by
  obtain ⟨hx, hb, hml, hown, hts, hr, hlocks, hK, hN⟩ := _root_.id C
  have hob := dk.2.1.ob
  refine lv_aload_n hx hb dL_law_568 rfl (lv_at hl 2 rfl) ?_
  refine lv_aload_n hx hb dL_law_569 rfl (lv_at hl 3 rfl) ?_
  refine lv_iload_n hx hb dL_law_570 rfl (lv_at hl 0 rfl) ?_
  refine lv_iconst (v := nI 1) hx hb dL_law_571 (by decide) ?_
  refine r_iaddN C dL_law_572 ?_
  refine r_sld C hX hbl hN0 hS (by omega) (by omega) dL_law_573 ?_
  refine r_Vi (As := [.int (xs (i + 1))]) (rest := []) C hM hS (c_state l D kA N0 M h S (xs (i + 1)) dk) (hob) rfl gL_law_X5_state rfl rfl rfl ⟨rfl, by decide +kernel, by decide +kernel, (by decide +kernel : (parseMethodDescriptor yX5_state.desc).map (fun d => d.parameters.length) = some 1)⟩ ⟨Nat.le_of_ble_eq_true rfl, Nat.le_of_ble_eq_true rfl⟩ hl.1 rfl (Nat.le_of_ble_eq_true rfl) dL_law_574 ⟨Nat.le_of_ble_eq_true rfl, Nat.le_of_ble_eq_true rfl⟩ (fun v M1 H locs hp hM hS => ?_)
  obtain ⟨ev, eM1⟩ := hp
  rw [eM1] at hM
  have mk1 := mk
  obtain ⟨us, hob1⟩ := mk1.1
  refine lv_aload_n hx hb dL_law_577 rfl (lv_at hl 1 rfl) ?_
  refine lv_aload_n hx hb dL_law_578 rfl (lv_at hl 3 rfl) ?_
  refine lv_iload_n hx hb dL_law_579 rfl (lv_at hl 0 rfl) ?_
  refine lv_iconst (v := nI 1) hx hb dL_law_580 (by decide) ?_
  refine r_iaddN C dL_law_581 ?_
  refine r_sld C hX hbl hN0 hS (by omega) (by omega) dL_law_582 ?_
  refine r_Vi (As := [.int (xs (i + 1))]) (rest := [.int v]) C hM hS (c6_state l D kA N0 M (h + 76) S (xs (i + 1)) dk.1 mk1) (hob1) rfl gL_law_X6_state rfl rfl rfl ⟨rfl, by decide +kernel, by decide +kernel, (by decide +kernel : (parseMethodDescriptor yX6_state.desc).map (fun d => d.parameters.length) = some 1)⟩ ⟨Nat.le_of_ble_eq_true rfl, Nat.le_of_ble_eq_true rfl⟩ hl.1 rfl (Nat.le_of_ble_eq_true rfl) dL_law_583 ⟨Nat.le_of_ble_eq_true rfl, Nat.le_of_ble_eq_true rfl⟩ (fun v2 M2 H locs hp hM hS => ?_)
  obtain ⟨ev2, eM2⟩ := hp
  rw [eM2] at hM
  rw [ev, ev2]
  refine lv_icmp_eq (tgt := 591) hx hb dL_law_586 (by decide) (fun hc => ?_) (fun hc => ?_)
  · exact hgo _ _ H locs ls dk mk hM hS hl
  · exact absurd rfl hc
end LAWC
section LAWLOOP
variable {p : Program} {l : Launch} {e : Env} {s : State} {m : MethodId} {below : List Frame} {meth : Method} {c : Code} {D : va_G} {kA : Nat → ClassId} {N0 h b L : Nat} {xs : Nat → Int32} {A9 : Array Value} {rt9 : Option FieldType} {Q : State → Prop}
set_option maxRecDepth 100000 in
theorem lw_loop (C : xC p s m A9 meth c cL_law 4 rt9 RL wsL_law D vwCl (xT kA) N0) (hX : va_X b L xs s s.heap) (hbl : b < N0) (hN0 : N0 = s.heap.size) (hL : L ≤ 3073) (hend : ∀ (H : Heap) (locs : List Loc) (ls : Array Slot), va_S (xA N0) s.heap H locs → W p l e room_1 s m A9 below meth c H locs 100 2000 Q (F0 m 597 ls [])) : ∀ (k i : Nat) (S : St) (M : xM) (H : Heap) (locs : List Loc) (ls : Array Slot), L ≤ i + k → i ≤ 3080 → Dk kA M h S → Mk kA M (h + 76) S → xW D vwCl N0 M H → va_S (xA N0) s.heap H locs → lv_has ls 4 [(3, .int (nI i)), (2, .ref (h + 76)), (1, .ref h), (0, .ref b)] → W p l e room_1 s m A9 below meth c H locs 100 2000 Q (F0 m 28 ls []) := by
  obtain ⟨hx, hb, hml, hown, hts, hr, hlocks, hK, hN⟩ := _root_.id C
  have h6 := L6 hL
  intro k
  induction k with
  | zero =>
    intro i S M H locs ls hk hi9 dk mk hM hS hl
    refine lv_iload_n hx hb dL_law_28 rfl (lv_at hl 0 rfl) ?_
    refine lv_aload_n hx hb dL_law_29 rfl (lv_at hl 3 rfl) ?_
    refine r_slen C hX hbl (by omega) hS dL_law_30 ?_
    refine lv_bipush (v := nI 6) hx hb dL_law_31 (by decide) ?_
    refine lv_isub hx hb dL_law_33 ?_
    refine lv_icmp_gt (tgt := 597) hx hb dL_law_34 (by decide) (fun hc => ?_) (fun hc => ?_)
    · exact hend H locs ls hS
    · exfalso
      apply hc
      show nI L - nI 6 < nI i
      rw [ilt, h6, t_nI (by omega)]
      omega
  | succ k ih =>
    intro i S M H locs ls hk hi9 dk mk hM hS hl
    refine lv_iload_n hx hb dL_law_28 rfl (lv_at hl 0 rfl) ?_
    refine lv_aload_n hx hb dL_law_29 rfl (lv_at hl 3 rfl) ?_
    refine r_slen C hX hbl (by omega) hS dL_law_30 ?_
    refine lv_bipush (v := nI 6) hx hb dL_law_31 (by decide) ?_
    refine lv_isub hx hb dL_law_33 ?_
    refine lv_icmp_gt (tgt := 597) hx hb dL_law_34 (by decide) (fun hc => ?_) (fun hc => ?_)
    · exact hend H locs ls hS
    · have hi : i + 5 < L := by
        have hc : ¬ nI L - nI 6 < nI i := hc
        rw [ilt, h6, t_nI (by omega)] at hc
        omega
      have hgo : LGo p l e s m A9 below meth c Q D kA N0 h b i := by
        intro S M H locs ls dk mk hM hS hl
        refine lv_iinc (v := nI (i + 6)) (lv' := [(3, .int (nI (i + 6))), (2, .ref (h + 76)), (1, .ref h), (0, .ref b)]) hx hb dL_law_591 hl (k := 0) rfl (nI_add _ 6) (by decide) rfl (fun ls hl => ?_)
        refine lv_goto (tgt := 28) hx hb dL_law_594 (by decide) ?_
        exact ih (i + 6) S M H locs ls (by omega) (by omega) dk mk hM hS hl
      refine lv_aload_n hx hb dL_law_37 rfl (lv_at hl 3 rfl) ?_
      refine lv_iload_n hx hb dL_law_38 rfl (lv_at hl 0 rfl) ?_
      refine r_sld C hX hbl hN0 hS (by omega) (by omega) dL_law_39 ?_
      refine lv_bipush (v := nI 15) hx hb dL_law_40 (by decide) ?_
      refine lv_iand hx hb dL_law_42 ?_
      obtain ⟨n, hn, en⟩ := and15 (xs i)
      rw [en]
      match n, hn with
      | 0, _ =>
        refine lv_tableIn (tgt := 116) (off := 73) hx hb dL_law_43 (by decide) (by decide) (by decide) (by decide) ?_
        exact la_select C hX hbl hN0 hL hi hgo dk mk hM hS hl
      | 1, _ =>
        refine lv_tableIn (tgt := 139) (off := 96) hx hb dL_law_43 (by decide) (by decide) (by decide) (by decide) ?_
        exact la_feedLimb C hX hbl hN0 hL hi hgo dk mk hM hS hl
      | 2, _ =>
        refine lv_tableIn (tgt := 162) (off := 119) hx hb dL_law_43 (by decide) (by decide) (by decide) (by decide) ?_
        exact la_seal C hX hbl hN0 hL hi hgo dk mk hM hS hl
      | 3, _ =>
        refine lv_tableIn (tgt := 175) (off := 132) hx hb dL_law_43 (by decide) (by decide) (by decide) (by decide) ?_
        exact la_open C hX hbl hN0 hL hi hgo dk mk hM hS hl
      | 4, _ =>
        refine lv_tableIn (tgt := 188) (off := 145) hx hb dL_law_43 (by decide) (by decide) (by decide) (by decide) ?_
        exact la_limb C hX hbl hN0 hL hi hgo dk mk hM hS hl
      | 5, _ =>
        refine lv_tableIn (tgt := 221) (off := 178) hx hb dL_law_43 (by decide) (by decide) (by decide) (by decide) ?_
        exact la_onCurve C hX hbl hN0 hL hi hgo dk mk hM hS hl
      | 6, _ =>
        refine lv_tableIn (tgt := 244) (off := 201) hx hb dL_law_43 (by decide) (by decide) (by decide) (by decide) ?_
        exact la_isInfinity C hX hbl hN0 hL hi hgo dk mk hM hS hl
      | 7, _ =>
        refine lv_tableIn (tgt := 267) (off := 224) hx hb dL_law_43 (by decide) (by decide) (by decide) (by decide) ?_
        exact la_addPts C hX hbl hN0 hL hi hgo dk mk hM hS hl
      | 8, _ =>
        refine lv_tableIn (tgt := 310) (off := 267) hx hb dL_law_43 (by decide) (by decide) (by decide) (by decide) ?_
        exact la_dbl C hX hbl hN0 hL hi hgo dk mk hM hS hl
      | 9, _ =>
        refine lv_tableIn (tgt := 343) (off := 300) hx hb dL_law_43 (by decide) (by decide) (by decide) (by decide) ?_
        exact la_scalarMul C hX hbl hN0 hL hi hgo dk mk hM hS hl
      | 10, _ =>
        refine lv_tableIn (tgt := 386) (off := 343) hx hb dL_law_43 (by decide) (by decide) (by decide) (by decide) ?_
        exact la_negate C hX hbl hN0 hL hi hgo dk mk hM hS hl
      | 11, _ =>
        refine lv_tableIn (tgt := 419) (off := 376) hx hb dL_law_43 (by decide) (by decide) (by decide) (by decide) ?_
        exact la_isSame C hX hbl hN0 hL hi hgo dk mk hM hS hl
      | 12, _ =>
        refine lv_tableIn (tgt := 452) (off := 409) hx hb dL_law_43 (by decide) (by decide) (by decide) (by decide) ?_
        exact la_verify C hX hbl hN0 hL hi hgo dk mk hM hS hl
      | 13, _ =>
        refine lv_tableIn (tgt := 515) (off := 472) hx hb dL_law_43 (by decide) (by decide) (by decide) (by decide) ?_
        exact la_reckon C hX hbl hN0 hL hi hgo dk mk hM hS hl
      | 14, _ =>
        refine lv_tableIn (tgt := 568) (off := 525) hx hb dL_law_43 (by decide) (by decide) (by decide) (by decide) ?_
        exact la_state C hX hbl hN0 hL hi hgo dk mk hM hS hl
      | 15, _ =>
        refine lv_tableOut (tgt := 591) hx hb dL_law_43 (Or.inr (by decide)) (by decide) ?_
        exact hgo S M H locs ls dk mk hM hS hl
      | n + 16, h9 => omega
end LAWLOOP
