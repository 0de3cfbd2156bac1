theorem in_L_law_X5 : ∀ w ∈ wsX50, w ∈ wsL_law := inlX5
theorem in_L_law_X6 : ∀ w ∈ wsX60, w ∈ wsL_law := inlX6
section LAWO
variable {p : Program} {l : Launch} {e : Env} {R : Room} {s : State} {m : MethodId} {args : Array Value} {below : List Frame} {meth : Method} {c : Code} {H : Heap} {locs : List Loc} {cells slots : Nat} {Q : State → Prop}
variable {cc : ByteArray} {pc nL : Nat} {rt9 : Option FieldType} {own : String} {Ts : List Cond} {ls : Array Slot} {rest st0 : List Value} {D : va_G} {kA : Nat → ClassId} {z z1 mc ms N0 index b maxL : Nat} {M : xM} {y : MethodName} {ws ws' : List Cond} {rm : Room} {bytes : ByteArray} {As : List Value}
theorem r_IvO {post : xM → Prop} (C : xC p s m args meth c cc nL rt9 own Ts D vwCl (xT kA) N0) (hM : xW D vwCl N0 M H) (hS : va_S (xA N0) s.heap H locs) (hz : zsz H z) (hao : va_AO "LimbCurves$Point" s) (hza : zAO s) (hC : Met l y ws rm (va_Pc (.ref b :: As) (zO D kA N0 z M)) (va_Qv post (zB D vwCl (xT kA) N0 z1) (xA N0)) mc ms (xA N0)) (hT : GoodIn Ts ws) (hini : (Cond.initialized y.cls).before args s = true) (hlk : (Cond.methodLink own index y).before args s = true) (hin : (Cond.instanceMethod y).before args s = true) (hy1 : y.name = "<init>") (hw : ws = Cond.code y bytes maxL none :: ws') (hrc : rm.cells = mc) (hrs : rm.slots = ms) (hd : y.cls ≠ "java/lang/invoke/MethodHandle" ∧ y.cls ≠ "java/lang/invoke/VarHandle" ∧ (parseMethodDescriptor y.desc).map (fun d => d.parameters.length) = some As.length) (hR : rm.frames + 1 ≤ R.frames ∧ 8 + (maxL + 11) + rm.locals ≤ R.locals) (hl : ls.size = nL) (hst : st0 = As.reverse ++ .ref b :: rest) (hrest : (rest.map fun v => v.category).sum ≤ 8) (hdg : decode cc pc = .ok (.invokespecial index, 3)) (hf : cells + mc ≤ R.cells ∧ slots + ms ≤ R.slots)
    (kk : ∀ (M1 : xM) (H1 : Heap) (locs1 : List Loc), post M1 → xW D vwCl N0 M1 H1 → va_S (xA N0) s.heap H1 locs1 → zsz H1 z1 → W p l e R s m args below meth c H1 locs1 (cells + mc) (slots + ms) Q (F0 m (pc + 3) ls (rest))) : W p l e R s m args below meth c H locs cells slots Q (F0 m pc ls st0) := by
  obtain ⟨hx, hb, hml, hown, hts, hr, hlocks, hK, hN⟩ := C
  have hp : PreS s H (va_Pc (.ref b :: As) (zO D kA N0 z M)) (.ref b :: As) := by
    refine ⟨fun a U g mk q => ?_, fun U hU hW => ⟨rfl, ⟨⟨by rw [hU]; exact Nat.le_trans hN hS.1, by rw [hU]; exact hM, va_K.moved hW.alike hK⟩, by rw [hU]; exact hz⟩, va_AO.moved hW.alike hao, zAO.moved hW.alike hza⟩⟩
    obtain ⟨q0, ⟨⟨q1, q2, qK⟩, q3⟩, q4, q5⟩ := q
    exact ⟨q0, ⟨⟨q1, q2, va_K.moved (u := U) (U := U.calling g mk a) (Vm.Alike.refl U.vm) qK⟩, q3⟩, va_AO.moved (u := U) (U := U.calling g mk a) (Vm.Alike.refl U.vm) q4, zAO.moved (u := U) (U := U.calling g mk a) (Vm.Alike.refl U.vm) q5⟩
  exact va_callv (va_runI ⟨hx, hb, hml, hown, hts⟩ hC (cwI As.length hts hT hw hrc hrs hini hlk hin hy1 hd hR) hp rfl rfl hl hst (lv_room hrest) hdg hf) hS (fun _ _ h => h) (fun _ h => h) (fun u t H1 locs1 ht hvm hp hB hz1 hk hS1 => kk u H1 locs1 hp (by rw [← ht]; exact hB.1.2.1) hS1 (by rw [← ht]; exact hB.2))
end LAWO
theorem over_P : Cond.arrayOver (.object "LimbCurves$Point") ∈ lw_tbl := List.mem_append_right _ (by decide +kernel)
theorem over_I : Cond.arrayOver (.array .int) ∈ lw_tbl := List.mem_append_right _ (by decide +kernel)
/-- the classes that the law's start knows -/
theorem lw_known {s : State} {b : Nat} (hts0 : ∀ w ∈ lw_tbl, w.before #[Value.ref b] s = true) (hts : ∀ w ∈ wsL_law, w.before #[Value.ref b] s = true) : ∃ (D : va_G) (kA : Nat → ClassId), va_K D vwCl (xT kA) s := by
  obtain ⟨c0, i0, h0⟩ := u_known (C := RX0) (T := TX0) (N := 6) (n := 6) hts0 inX0 (hts (.instantiable RX0 6) (by decide +kernel))
  obtain ⟨c2, i2, h2⟩ := u_known (C := RX2) (T := TX2) (N := 3) (n := 3) hts0 inX2 (hts (.instantiable RX2 3) (by decide +kernel))
  obtain ⟨c3, i3, h3⟩ := u_known (C := RX3) (T := TX3) (N := 10) (n := 10) hts0 inX3 (hts (.instantiable RX3 10) (by decide +kernel))
  obtain ⟨c4, i4, h4⟩ := u_known (C := RX4) (T := TX4) (N := 12) (n := 12) hts0 inX4 (hts (.instantiable RX4 12) (by decide +kernel))
  obtain ⟨c5, i5, h5⟩ := u_known (C := RX5) (T := TX5) (N := 13) (n := 13) hts0 inX5 (hts (.instantiable RX5 13) (by decide +kernel))
  obtain ⟨c6, i6, h6⟩ := u_known (C := RX6) (T := TX6) (N := 12) (n := 12) hts0 inX6 (hts (.instantiable RX6 12) (by decide +kernel))
  obtain ⟨a0, k0, p0, f1, f2, f3⟩ := Cond.arrayClass_spec (hts (.arrayClass .int) (by decide +kernel))
  obtain ⟨a1, k1, p1, g1, g2, g3⟩ := Cond.arrayClass_spec (hts (.arrayClass .boolean) (by decide +kernel))
  obtain ⟨p2, a2, k2, o1, -, o3, o4, o5⟩ := Cond.arrayOver_spec (hts0 _ over_P)
  obtain ⟨p3, a3, k3, r1, -, r3, r4, r5⟩ := arrayOverA_spec (hts0 _ over_I)
  refine ⟨(fun k => if k = 0 then c0 else if k = 1 then c2 else if k = 2 then c3 else if k = 3 then c4 else if k = 4 then c5 else c6, fun k => if k = 0 then i0 else if k = 1 then i2 else if k = 2 then i3 else if k = 3 then i4 else if k = 4 then i5 else i6), fun k => if k = 0 then a0 else if k = 1 then a1 else if k = 2 then a2 else a3, fun k q hq => ?_, fun k q hq => ?_⟩
  · match k, hq with
    | 0, hq => cases hq; exact h0
    | 1, hq => cases hq; exact h2
    | 2, hq => cases hq; exact h3
    | 3, hq => cases hq; exact h4
    | 4, hq => cases hq; exact h5
    | 5, hq => cases hq; exact h6
    | k + 6, hq => simp [vwCl] at hq
  · match k, hq with
    | 0, hq => cases hq; exact ⟨fun n z => ⟨fun k h => (by cases h), k0, f2, p0, f3⟩, f1⟩
    | 1, hq => cases hq; exact ⟨fun n z => ⟨fun k h => (by cases h), k1, g2, p1, g3⟩, g1⟩
    | 2, hq => cases hq; exact ⟨fun n z => ⟨fun k h => (by cases h), k2, o3, p2, o4⟩, k2, p2, o3, o4, o1, o5⟩
    | 3, hq => cases hq; exact ⟨fun n z => ⟨fun k h => (by cases h), k3, r3, p3, r4⟩, r5⟩
    | k + 4, hq => simp [xT] at hq
set_option maxRecDepth 100000 in
/-- THE LAW, from its entry -/
theorem whole_start {p : Program} {e : Env} {s : State} {m : MethodId} {below : List Frame} {meth : Method} {c : Code} (l : Launch) {b L : Nat} {xs : Nat → Int32} (hL : L ≤ 3073) (C0 : lw_At p s m meth c b L xs) : W p l e room_1 s m #[Value.ref b] below meth c s.heap [] 0 0 (lw_Z below #[Value.ref b] s) (entryFrame m ([Value.ref b] : List Value).toArray 4) := by
  obtain ⟨hx, hb, hr, hml, hown, hts0, hX, hbl, hlocks, hgv⟩ := _root_.id C0
  have hts : ∀ w ∈ wsL_law, w.before #[Value.ref b] s = true := fun w h => hts0 w (wsL_law_in w h)
  obtain ⟨D, kA, hK⟩ := lw_known hts0 hts
  have hao : va_AO "LimbCurves$Point" s := va_AO.of (hts0 _ over_P)
  have hza : zAO s := hts0 _ over_I
  obtain ⟨N0, hN0⟩ : ∃ n, n = s.heap.size := ⟨_, rfl⟩
  rw [← hN0] at hbl
  have C : xC p s m #[Value.ref b] meth c cL_law 4 ret RL wsL_law D vwCl (xT kA) N0 := ⟨hx, hb, hml, hown, hts, hr, hlocks, hK, Nat.le_of_eq hN0⟩
  have hl := lv_entry ([.ref b]) (n := 4) (Nat.le_of_ble_eq_true rfl)
  rw [lg_entry_eq]
  generalize (lg_sl ([.ref b]) ++ List.replicate (4 - (lg_sl ([.ref b])).length) Slot.unset).toArray = ls at hl ⊢
  have hl : lv_has ls 4 [(0, .ref b)] := hl
  have hS : va_S (xA N0) s.heap s.heap [] := va_S.rf
  have hM : xW D vwCl N0 (fun _ => none) s.heap := xW.none
  have hz : zsz s.heap N0 := hN0.symm
  obtain ⟨M, eM⟩ : ∃ q : xM, q = fun _ => none := ⟨_, rfl⟩
  rw [← eM] at hM
  refine r_new (ci := 4) (fs := [.int 0, .null, .null, .null, .null, .null, .null, .null, .null, .null, .int 0, .int 0, .int 0]) C hM hS hz in_L_law_X5 tyX5 tyX5_ok (hts (.classLink RL 7 RX5) (by decide +kernel)) (hts (.instantiable RX5 13) (by decide +kernel)) (hts (.initialized RX5) (by decide +kernel)) rfl (fun j hj => by match j, hj with | 0, _ => rfl | 1, _ => rfl | 2, _ => rfl | 3, _ => rfl | 4, _ => rfl | 5, _ => rfl | 6, _ => rfl | 7, _ => rfl | 8, _ => rfl | 9, _ => rfl | 10, _ => rfl | 11, _ => rfl | 12, _ => rfl | j + 13, h => omega) (by show _ ≤ 600000; omega) (by show _ ≤ 7302250; omega) dL_law_0 (fun H hM hS hz => ?_)
  obtain ⟨M9, eM9⟩ : ∃ q, xset M N0 (xO 4 [.int 0, .null, .null, .null, .null, .null, .null, .null, .null, .null, .int 0, .int 0, .int 0]) = q := ⟨_, rfl⟩
  rw [eM9] at hM
  have ho := xself eM9
  clear eM9
  replace hz : zsz H (N0 + 1) := hz
  refine lv_dup hx hb dL_law_3 rfl ?_
  refine lv_aload_n hx hb dL_law_4 rfl (lv_at hl 0 rfl) ?_
  refine lv_iconst (v := nI 0) hx hb dL_law_5 (by decide) ?_
  refine r_Scell (y := yL_cell) C hM hS hz hX hbl hL gL_law_L_cell ⟨Nat.le_of_ble_eq_true rfl, Nat.le_of_ble_eq_true rfl⟩ hl.1 (Nat.le_of_ble_eq_true rfl) dL_law_6 ⟨by show _ ≤ 600000; omega, by show _ ≤ 7302250; omega⟩ (fun H locs hM hS hz => ?_)
  obtain ⟨x0, ex0⟩ : ∃ q, (if 0 < L then xs 0 else 0) = q := ⟨_, rfl⟩
  rw [ex0]
  refine r_IvO (As := [.int x0]) (rest := [.ref N0]) C hM hS hz hao hza (c_initDesk l D kA N0 N0 x0 M9 ho) gL_law_X5_init (hts (.initialized RX5) (by decide +kernel)) (hts (.methodLink RL 15 yX5_init) (by decide +kernel)) (hts (.instanceMethod yX5_init) (by decide +kernel)) rfl rfl rfl rfl ⟨by decide +kernel, by decide +kernel, (by decide +kernel : (parseMethodDescriptor yX5_init.desc).map (fun d => d.parameters.length) = some 1)⟩ ⟨Nat.le_of_ble_eq_true rfl, Nat.le_of_ble_eq_true rfl⟩ hl.1 rfl (Nat.le_of_ble_eq_true rfl) dL_law_9 ⟨by show _ ≤ 600000; omega, by show _ ≤ 7302250; omega⟩ (fun M H locs hp hM hS hz => ?_)
  obtain ⟨dk, -⟩ := hp
  have hfr : ∀ b, (b < N0 + 76) → M b = M b := fun _ _ => rfl
  refine lv_astore_n (lv' := [(1, .ref N0), (0, .ref b)]) hx hb dL_law_12 rfl hl (by decide) rfl (fun ls hl => ?_)
  refine r_new (ci := 5) (fs := [.int 0, .null, .null, .int 0, .int 0, .int 0, .null, .null, .null, .null, .null, .int 0]) C hM hS hz in_L_law_X6 tyX6 tyX6_ok (hts (.classLink RL 18 RX6) (by decide +kernel)) (hts (.instantiable RX6 12) (by decide +kernel)) (hts (.initialized RX6) (by decide +kernel)) rfl (fun j hj => by match j, hj with | 0, _ => rfl | 1, _ => rfl | 2, _ => rfl | 3, _ => rfl | 4, _ => rfl | 5, _ => rfl | 6, _ => rfl | 7, _ => rfl | 8, _ => rfl | 9, _ => rfl | 10, _ => rfl | 11, _ => rfl | j + 12, h => omega) (by show _ ≤ 600000; omega) (by show _ ≤ 7302250; omega) dL_law_13 (fun H hM hS hz => ?_)
  obtain ⟨M9, eM9⟩ : ∃ q, xset M (N0 + 76) (xO 5 [.int 0, .null, .null, .int 0, .int 0, .int 0, .null, .null, .null, .null, .null, .int 0]) = q := ⟨_, rfl⟩
  rw [eM9] at hM
  replace hfr : ∀ b, (b < N0 + 76) → M9 b = M b := fun b hb9 => xkeep eM9 (by omega) (hfr b hb9)
  have hmo := xself eM9
  clear eM9
  replace hz : zsz H (N0 + 77) := hz
  refine lv_dup hx hb dL_law_16 rfl ?_
  refine lv_aload_n hx hb dL_law_17 rfl (lv_at hl 1 rfl) ?_
  refine lv_iconst (v := nI 0) hx hb dL_law_18 (by decide) ?_
  refine r_Scell (y := yL_cell) C hM hS hz hX hbl hL gL_law_L_cell ⟨Nat.le_of_ble_eq_true rfl, Nat.le_of_ble_eq_true rfl⟩ hl.1 (Nat.le_of_ble_eq_true rfl) dL_law_19 ⟨by show _ ≤ 600000; omega, by show _ ≤ 7302250; omega⟩ (fun H locs hM hS hz => ?_)
  rw [ex0]
  refine r_Ivz (As := [.int x0]) (rest := [.ref (N0 + 76)]) C hM hS hz (c_initModel l D kA N0 (N0 + 76) x0 M9 hmo) gL_law_X6_init (hts (.initialized RX6) (by decide +kernel)) (hts (.methodLink RL 20 yX6_init) (by decide +kernel)) (hts (.instanceMethod yX6_init) (by decide +kernel)) rfl rfl rfl rfl ⟨by decide +kernel, by decide +kernel, (by decide +kernel : (parseMethodDescriptor yX6_init.desc).map (fun d => d.parameters.length) = some 1)⟩ ⟨Nat.le_of_ble_eq_true rfl, Nat.le_of_ble_eq_true rfl⟩ hl.1 rfl (Nat.le_of_ble_eq_true rfl) dL_law_22 ⟨(by show _ ≤ 600000; omega), (by show _ ≤ 7302250; omega)⟩ (fun M9 H locs hp hM hS hz => ?_)
  obtain ⟨mk, hpf⟩ := hp
  replace hfr : ∀ b, (b < N0 + 76) → M9 b = M b := fun b hb9 => hpf _ (by omega) |>.trans (hfr b hb9)
  replace hz : zsz H (N0 + 84) := hz
  have dk9 := dk.kept6 (M1 := M9) (fun b9 h1 h2 => hfr b9 (by omega))
  refine lv_astore_n (lv' := [(2, .ref (N0 + 76)), (1, .ref N0), (0, .ref b)]) hx hb dL_law_25 rfl hl (by decide) rfl (fun ls hl => ?_)
  refine lv_iconst (v := nI 1) hx hb dL_law_26 (by decide) ?_
  refine lv_istore_n (lv' := [(3, .int (nI 1)), (2, .ref (N0 + 76)), (1, .ref N0), (0, .ref b)]) hx hb dL_law_27 rfl hl (by decide) rfl (fun ls hl => ?_)
  refine W.widen (k := 100) (n := 2000) (by omega) (by omega) ?_
  refine lw_loop C hX hbl hN0 hL (fun H locs ls hS => ?_) L 1 (spNew x0) M9 H locs _ (by omega) (by omega) dk9 mk hM hS (lv_sub hl [0, 1, 2, 3] rfl)
  refine lv_iconst (v := 1) hx hb dL_law_597 (by decide) ?_
  refine va_forget (fun q hq => by rw [← hN0]; exact hS.2.2 q hq) ?_
  refine W.widen (k := 600000) (n := 7302250) (by omega) (by omega) ?_
  exact lw_ret hx hb hr hlocks dL_law_598
