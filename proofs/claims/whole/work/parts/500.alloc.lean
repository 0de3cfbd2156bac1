-- WHAT IS MADE: rows over the map for new objects and arrays; z: the heap's size
/-- the map is held by a heap that has grown -/
theorem xW.grow {D : va_G} {cl : List vw_C} {N0 : Nat} {M : xM} {H H1 : Heap} (h : xW D cl N0 M H) (ho : ∀ q, q < H.size → H1[q]? = H[q]?) : xW D cl N0 M H1 := by
  obtain ⟨ws, hP, hD, hm⟩ := h
  exact ⟨ws, hP.kept fun k q hk => ho q.1 (hP k q hk).lt, hD, hm⟩
/-- one more cell of the heap is told -/
theorem xW.more {D : va_G} {cl : List vw_C} {N0 : Nat} {M : xM} {H : Heap} {a : Nat} {e : va_E} (h : xW D cl N0 M H) (hno : M a = Option.none) (hN : N0 ≤ a) (he : va_at D cl (a, e) H) : xW D cl N0 (xset M a e) H := by
  obtain ⟨ws, hP, hD, hm⟩ := h
  have hap : ∀ (k : Nat) (q : Nat × va_E), ws[k]? = some q → q.1 ≠ a := fun k q hk e9 => by
    have := (hm q.1 q.2).mpr ⟨k, hk⟩
    rw [e9, hno] at this
    cases this
  refine ⟨ws ++ [(a, e)], ?_, ⟨fun i j x y hi hj hxy => ?_, fun k x hx => ?_⟩, fun b e' => ?_⟩
  · refine va_P.app hP ?_
    intro k q hk
    have hz : k < 1 := (List.getElem?_eq_some_iff.mp hk).1
    rw [show k = 0 by omega] at hk
    cases hk
    exact he
  · by_cases h1 : i < ws.length
    · rw [List.getElem?_append_left h1] at hi
      by_cases h2 : j < ws.length
      · rw [List.getElem?_append_left h2] at hj
        exact hD.1 i j x y hi hj hxy
      · rw [List.getElem?_append_right (by omega)] at hj
        have hz : j - ws.length < 1 := (List.getElem?_eq_some_iff.mp hj).1
        rw [show j - ws.length = 0 by omega] at hj
        cases hj
        exact absurd hxy (hap i x hi)
    · rw [List.getElem?_append_right (by omega)] at hi
      have hz : i - ws.length < 1 := (List.getElem?_eq_some_iff.mp hi).1
      rw [show i - ws.length = 0 by omega] at hi
      cases hi
      by_cases h2 : j < ws.length
      · rw [List.getElem?_append_left h2] at hj
        exact absurd hxy.symm (hap j y hj)
      · rw [List.getElem?_append_right (by omega)] at hj
        have hz2 : j - ws.length < 1 := (List.getElem?_eq_some_iff.mp hj).1
        omega
  · by_cases h1 : k < ws.length
    · rw [List.getElem?_append_left h1] at hx
      exact hD.2 k x hx
    · rw [List.getElem?_append_right (by omega)] at hx
      have hz : k - ws.length < 1 := (List.getElem?_eq_some_iff.mp hx).1
      rw [show k - ws.length = 0 by omega] at hx
      cases hx
      exact hN
  · constructor
    · intro hb
      by_cases hq : b = a
      · subst hq
        rw [xset_s] at hb
        cases hb
        exact ⟨ws.length, by simp⟩
      · rw [xset_n hq] at hb
        obtain ⟨j, hj⟩ := (hm b e').mp hb
        exact ⟨j, by rw [List.getElem?_append_left (List.getElem?_eq_some_iff.mp hj).1]; exact hj⟩
    · rintro ⟨j, hj⟩
      by_cases hjl : j < ws.length
      · rw [List.getElem?_append_left hjl] at hj
        have hb := (hm b e').mpr ⟨j, hj⟩
        rw [xset_n (hap j _ hj)]
        exact hb
      · rw [List.getElem?_append_right (by omega)] at hj
        have hz : j - ws.length < 1 := (List.getElem?_eq_some_iff.mp hj).1
        rw [show j - ws.length = 0 by omega] at hj
        cases hj
        exact xset_s
/-- rows laid side by side -/
def xrow (M : xM) (z n : Nat) (e : va_E) : xM := fun b => if z ≤ b ∧ b < z + n then some e else M b
theorem xrow_in {M : xM} {z n b : Nat} {e : va_E} (h1 : z ≤ b) (h2 : b < z + n) : xrow M z n e b = some e := if_pos ⟨h1, h2⟩
theorem xrow_out {M : xM} {z n b : Nat} {e : va_E} (h : b < z ∨ z + n ≤ b) : xrow M z n e b = M b := if_neg (by omega)
theorem xW.rows {D : va_G} {cl : List vw_C} {N0 : Nat} {M : xM} {H : Heap} {z : Nat} {e : va_E} (hN : N0 ≤ z) : ∀ (n : Nat), xW D cl N0 M H → (∀ j, j < n → M (z + j) = Option.none) → (∀ j, j < n → va_at D cl (z + j, e) H) → xW D cl N0 (xrow M z n e) H := by
  intro n
  induction n with
  | zero =>
    intro h _ _
    have : xrow M z 0 e = M := by
      funext b
      exact xrow_out (by omega)
    rw [this]
    exact h
  | succ n ih =>
    intro h h1 h2
    have h3 := ih h (fun j hj => h1 j (by omega)) (fun j hj => h2 j (by omega))
    have h4 := h3.more (a := z + n) (by rw [xrow_out (by omega)]; exact h1 n (by omega)) (by omega) (h2 n (by omega))
    have : xset (xrow M z n e) (z + n) e = xrow M z (n + 1) e := by
      funext b
      by_cases q : b = z + n
      · rw [q, xset_s, xrow_in (by omega) (by omega)]
      · rw [xset_n q]
        by_cases q1 : z ≤ b ∧ b < z + n
        · rw [xrow_in q1.1 q1.2, xrow_in (by omega) (by omega)]
        · rw [xrow_out (by omega), xrow_out (by omega)]
    rw [this] at h4
    exact h4
/-- the heap's size -/
def zsz (H : Heap) (n : Nat) : Prop := H.size = n
def zB (D : va_G) (cl : List vw_C) (tys : List (ClassId × FieldType)) (N0 z : Nat) (M : xM) (U : State) : Prop := xB D cl tys N0 M U ∧ U.heap.size = z
/-- arrays over int[] may be made -/
def zAO (U : State) : Prop := (Cond.arrayOver (.array .int)).before #[] U = true
theorem z_blind {av : List Value} {D : va_G} {cl : List vw_C} {tys : List (ClassId × FieldType)} {N0 z : Nat} {M : xM} : FrameBlind (va_Pc av (zB D cl tys N0 z M)) := fun a U g mk q => by
  obtain ⟨q0, ⟨q1, q2, qK⟩, q3⟩ := q
  exact ⟨q0, ⟨q1, q2, va_K.moved (u := U) (U := U.calling g mk a) (Vm.Alike.refl U.vm) qK⟩, q3⟩
theorem z_pre {av : List Value} {D : va_G} {cl : List vw_C} {tys : List (ClassId × FieldType)} {N0 z : Nat} {M : xM} {s : State} {H : Heap} {locs : List Loc} (hK : va_K D cl tys s) (hM : xW D cl N0 M H) (hN : N0 ≤ s.heap.size) (hS : va_S (xA N0) s.heap H locs) (hz : H.size = z) : PreS s H (va_Pc av (zB D cl tys N0 z M)) av :=
  ⟨z_blind, fun U hU hW => ⟨rfl, ⟨by rw [hU]; exact Nat.le_trans hN hS.1, by rw [hU]; exact hM, va_K.moved hW.alike hK⟩, by rw [hU]; exact hz⟩⟩
theorem r_metz {l : Launch} {y : MethodName} {ws ws' : List Cond} {rm : Room} {Qc : Array Value → State → Outcome → State → Prop} {mc ms : Nat} {cc : ByteArray} {maxL : Nat} {ret : Option FieldType} {av : List Value} {D : va_G} {cl : List vw_C} {tys : List (ClassId × FieldType)} {N0 z : Nat} {M : xM}
    (hy : plainName y.cls = true) (hw : ws = Cond.code y cc maxL ret :: ws') (hav : (lg_sl av).length ≤ maxL)
    (body : ∀ (p : Program) (e : Env) (s : State) (m : MethodId) (below : List Frame) (meth : Method) (c : Code) (ls : Array Slot), xC p s m av.toArray meth c cc maxL ret y.cls ws D cl tys N0 → xW D cl N0 M s.heap → zsz s.heap z → meth.name = y.name → lv_has ls maxL (lv_args 0 av) →
      W p l e rm s m av.toArray below meth c s.heap [] 0 0 (MQ below Qc av.toArray s mc ms (xA N0)) (F0 m 0 ls [])) : Met l y ws rm (va_Pc av (zB D cl tys N0 z M)) Qc mc ms (xA N0) := by
  refine Met.ofW (cc := cc) (maxL := maxL) (ret := ret) hy hw ?_
  intro p e s m args below meth c s₁ B hml hv
  obtain ⟨rfl, ⟨hN, hM, hK⟩, hz⟩ := hv
  have hl := lv_entry av (n := maxL) hav
  rw [lg_entry_eq]
  exact body p e s m below meth c _ ⟨B.exec, B.bytes, hml, findClass_of_methodNamed B.named, atoms_spec (ws := ws) B.pre, B.returns, B.notSynchronized, hK, hN⟩ hM hz (name_of_methodNamed B.named B.method).1 hl
section ZROWS
variable {p : Program} {l : Launch} {e : Env} {R : Room} {s : State} {m : MethodId} {args : Array Value} {below : List Frame} {meth : Method} {c : Code} {H : Heap} {locs : List Loc} {cells slots : Nat} {Q : State → Prop}
variable {cc : ByteArray} {pc nL : Nat} {ret : Option FieldType} {own : String} {Ts : List Cond} {ls : Array Slot} {rest st0 : List Value} {D : va_G} {cl : List vw_C} {a z z1 mc ms : Nat} {tys : List (ClassId × FieldType)} {N0 : Nat} {M : xM}
variable {y : MethodName} {ws ws' : List Cond} {rm : Room} {bytes : ByteArray} {maxL index : Nat} {As : List Value} {b : Nat}
theorem r_vretz {post : xM → Prop} (C : xC p s m args meth c cc nL none own Ts D cl tys N0) (hM : xW D cl N0 M H) (hS : va_S (xA N0) s.heap H locs) (hz : zsz H z) (hp : post M) (hdg : decode cc pc = .ok (.return_, 1)) : W p l e R s m args below meth c H locs cells slots (MQ below (va_Qv post (zB D cl tys N0 z) (xA N0)) args s cells slots (xA N0)) (F0 m pc ls []) :=
  W.vret C.1 C.2.1 C.2.2.2.2.2.1 (fun t ht hW => ⟨⟨M, rfl, hp, xB_end C hM hS ht hW, by rw [ht]; exact hz⟩, hS.F ht⟩) hS.2.2 hdg C.2.2.2.2.2.2.1
theorem r_Ivz {post : xM → Prop} (C : xC p s m args meth c cc nL ret own Ts D cl tys N0) (hM : xW D cl N0 M H) (hS : va_S (xA N0) s.heap H locs) (hz : zsz H z) (hC : Met l y ws rm (va_Pc (.ref b :: As) (zB D cl tys N0 z M)) (va_Qv post (zB D cl tys N0 z1) (xA N0)) mc ms (xA N0)) (hT : GoodIn Ts ws) (hini : (Cond.initialized y.cls).before args s = true) (hlk : (Cond.methodLink own index y).before args s = true) (hin : (Cond.instanceMethod y).before args s = true) (hy1 : y.name = "<init>") (hw : ws = Cond.code y bytes maxL none :: ws') (hrc : rm.cells = mc) (hrs : rm.slots = ms) (hd : y.cls ≠ "java/lang/invoke/MethodHandle" ∧ y.cls ≠ "java/lang/invoke/VarHandle" ∧ (parseMethodDescriptor y.desc).map (fun d => d.parameters.length) = some As.length) (hR : rm.frames + 1 ≤ R.frames ∧ 8 + (maxL + 11) + rm.locals ≤ R.locals) (hl : ls.size = nL) (hst : st0 = As.reverse ++ .ref b :: rest) (hrest : (rest.map fun v => v.category).sum ≤ 8) (hdg : decode cc pc = .ok (.invokespecial index, 3)) (hf : cells + mc ≤ R.cells ∧ slots + ms ≤ R.slots)
    (kk : ∀ (M1 : xM) (H1 : Heap) (locs1 : List Loc), post M1 → xW D cl N0 M1 H1 → va_S (xA N0) s.heap H1 locs1 → zsz H1 z1 → W p l e R s m args below meth c H1 locs1 (cells + mc) (slots + ms) Q (F0 m (pc + 3) ls (rest))) : W p l e R s m args below meth c H locs cells slots Q (F0 m pc ls st0) := by
  obtain ⟨hx, hb, hml, hown, hts, hr, hlocks, hK, hN⟩ := C
  have hz : H.size = z := hz
  exact va_callv (va_runI ⟨hx, hb, hml, hown, hts⟩ hC (cwI As.length hts hT hw hrc hrs hini hlk hin hy1 hd hR) (z_pre hK hM hN hS hz) rfl rfl hl hst (lv_room hrest) hdg hf) hS (fun _ _ h => h) (fun _ h => h) (fun u t H1 locs1 ht hvm hp hB hz1 hk hS1 => kk u H1 locs1 hp (by rw [← ht]; exact hB.1.2.1) hS1 (by rw [← ht]; exact hB.2))
theorem z_S {H1 : Heap} (hS : va_S (xA N0) s.heap H locs) (hz : H.size ≤ H1.size) (ho : ∀ q, q < H.size → H1[q]? = H[q]?) : va_S (xA N0) s.heap H1 locs :=
  ⟨Nat.le_trans hS.1 hz, fun x h1 h2 => (ho x (Nat.lt_of_lt_of_le h1 hS.1)).trans (hS.2.1 x h1 h2), hS.2.2⟩
theorem nI_n0 {n : Nat} (h : n < 2147483648) : ¬ nI n < 0 := by
  rw [Int32.lt_iff_toInt_lt, nI_toInt (by omega)]
  have : (0 : Int32).toInt = 0 := by decide
  omega
theorem r_newi {cA : ClassId} {n : Nat} (C : xC p s m args meth c cc nL ret own Ts D cl tys N0) (hM : xW D cl N0 M H) (hS : va_S (xA N0) s.heap H locs) (hz : zsz H z) (ht : tys[0]? = some (cA, .int)) (harr : (Cond.arrayClass .int).before args s = true) (hn : n < 1000) (hc : cells + 1 ≤ R.cells) (hs : slots + n ≤ R.slots) (hdg : decode cc pc = .ok (.newarray .int, 2))
    (kk : ∀ H1 : Heap, xW D cl N0 (xset M z (xI cA n (fun _ => 0))) H1 → va_S (xA N0) s.heap H1 locs → zsz H1 (z + 1) → W p l e R s m args below meth c H1 locs (cells + 1) (slots + n) Q (F0 m (pc + 2) ls (.ref z :: rest))) : W p l e R s m args below meth c H locs cells slots Q (F0 m pc ls (.int (nI n) :: rest)) := by
  obtain ⟨hx, hb, hml, hown, hts, hr, hlocks, hK, hN⟩ := C
  have hz : H.size = z := hz
  refine va_newaK hx hb (atype := .int) harr (g := F0 m pc ls (.int (nI n) :: rest)) rfl hdg rfl (nI_n0 (by omega)) (nI_clamp (by omega)) (by show n * 4 ≤ _; omega) hc hs hz (fun H1 cA' e1 z1 o1 hAr hNm => ?_)
  have hra : s.vm.findClass ("[" ++ (FieldType.int).toString) = some cA := (hK.2 0 _ ht).2
  have ec : cA' = cA := Option.some.inj (hNm.symm.trans hra)
  subst ec
  have o2 : ∀ q, q < H.size → H1[q]? = H[q]? := fun q hq => o1 q (by omega)
  exact kk H1 (by rw [← hz]; exact hM.new (Nat.le_trans hN hS.1) (by rw [hz]; exact e1) o2) (z_S hS (by omega) o2) z1
theorem r_newz {cA : ClassId} {n : Nat} (C : xC p s m args meth c cc nL ret own Ts D cl tys N0) (hM : xW D cl N0 M H) (hS : va_S (xA N0) s.heap H locs) (hz : zsz H z) (ht : tys[1]? = some (cA, .boolean)) (harr : (Cond.arrayClass .boolean).before args s = true) (hn : n < 1000) (hc : cells + 1 ≤ R.cells) (hs : slots + n ≤ R.slots) (hdg : decode cc pc = .ok (.newarray .boolean, 2))
    (kk : ∀ H1 : Heap, xW D cl N0 (xset M z (xI cA n (fun _ => 0))) H1 → va_S (xA N0) s.heap H1 locs → zsz H1 (z + 1) → W p l e R s m args below meth c H1 locs (cells + 1) (slots + n) Q (F0 m (pc + 2) ls (.ref z :: rest))) : W p l e R s m args below meth c H locs cells slots Q (F0 m pc ls (.int (nI n) :: rest)) := by
  obtain ⟨hx, hb, hml, hown, hts, hr, hlocks, hK, hN⟩ := C
  have hz : H.size = z := hz
  refine va_newaK hx hb (atype := .boolean) harr (g := F0 m pc ls (.int (nI n) :: rest)) rfl hdg rfl (nI_n0 (by omega)) (nI_clamp (by omega)) (by show n * 1 ≤ _; omega) hc hs hz (fun H1 cA' e1 z1 o1 hAr hNm => ?_)
  have hra : s.vm.findClass ("[" ++ (FieldType.boolean).toString) = some cA := (hK.2 1 _ ht).2
  have ec : cA' = cA := Option.some.inj (hNm.symm.trans hra)
  subst ec
  have o2 : ∀ q, q < H.size → H1[q]? = H[q]? := fun q hq => o1 q (by omega)
  exact kk H1 (by rw [← hz]; exact hM.new (Nat.le_trans hN hS.1) (by rw [hz]; exact e1) o2) (z_S hS (by omega) o2) z1
theorem r_new {C9 : String} {T : u_T} {N ci : Nat} {fs : List Value} (C : xC p s m args meth c cc nL ret own Ts D cl tys N0) (hM : xW D cl N0 M H) (hS : va_S (xA N0) s.heap H locs) (hz : zsz H z) (hin : ∀ w ∈ u_ws C9 T N, w ∈ Ts) (ty : Nat → FieldType) (hty : ∀ k, k < N → parseFieldDescriptor (T k).2.2.1 = some (ty k)) (hcl : (Cond.classLink own index C9).before args s = true) (hinst : (Cond.instantiable C9 N).before args s = true) (hini : (Cond.initialized C9).before args s = true) (hci : cl[ci]? = some (C9, T, N)) (hfs : ∀ j, j < N → defaultValue (ty j) = vp_V fs j) (hc : cells + 1 ≤ R.cells) (hs : slots + N ≤ R.slots) (hdg : decode cc pc = .ok (.new index, 3))
    (kk : ∀ H1 : Heap, xW D cl N0 (xset M z (xO ci fs)) H1 → va_S (xA N0) s.heap H1 locs → zsz H1 (z + 1) → W p l e R s m args below meth c H1 locs (cells + 1) (slots + N) Q (F0 m (pc + 3) ls (.ref z :: rest))) : W p l e R s m args below meth c H locs cells slots Q (F0 m pc ls rest) := by
  obtain ⟨hx, hb, hml, hown, hts, hr, hlocks, hK, hN⟩ := C
  have hz : H.size = z := hz
  have hKn := hK.1 ci _ hci
  refine W.newcK hx hb hown hcl hinst hini (g := F0 m pc ls rest) rfl hdg hc hs hKn.2.1 hz (fun H1 kC hkC e1 z1 o1 => ?_)
  have o2 : ∀ q, q < H.size → H1[q]? = H[q]? := fun q hq => o1 q (by omega)
  refine kk H1 ?_ (z_S hS (by omega) o2) z1
  rw [← hz]
  refine hM.new (Nat.le_trans hN hS.1) ?_ o2
  rw [hz]
  exact ⟨_, hci, (u_born ty hts hin hKn hkC e1 hty).to hfs⟩
theorem r_newq {cA : ClassId} {C9 : String} {n t0 : Nat} (C : xC p s m args meth c cc nL ret own Ts D cl tys N0) (hM : xW D cl N0 M H) (hS : va_S (xA N0) s.heap H locs) (hz : zsz H z) (ht : tys[t0]? = some (cA, .object C9)) (hclink : (Cond.classLink own index C9).before args s = true) (hover : va_AO C9 s) (hn : n < 1000) (hc : cells + 1 ≤ R.cells) (hs : slots + n ≤ R.slots) (hdg : decode cc pc = .ok (.anewarray index, 3))
    (kk : ∀ H1 : Heap, xW D cl N0 (xset M z (xQ cA n (fun _ => none))) H1 → va_S (xA N0) s.heap H1 locs → zsz H1 (z + 1) → W p l e R s m args below meth c H1 locs (cells + 1) (slots + n) Q (F0 m (pc + 3) ls (.ref z :: rest))) : W p l e R s m args below meth c H locs cells slots Q (F0 m pc ls (.int (nI n) :: rest)) := by
  obtain ⟨hx, hb, hml, hown, hts, hr, hlocks, hK, hN⟩ := C
  have hz : H.size = z := hz
  have e0 : (nI n).toNatClampNeg = n := nI_clamp (by omega)
  refine W.anew hx hb hown hclink (va_AO.use hover) (g := F0 m pc ls (.int (nI n) :: rest)) rfl hdg rfl (nI_n0 (by omega)) (by rw [e0]; omega) hc (by rw [e0]; exact hs) (fun cA' kA comp f1 f2 f3 f4 => ?_)
  rw [e0]
  obtain ⟨-, -, -, -, -, hra⟩ : ∃ (kA : Class) (comp : ClassId), s.vm.classes[cA]? = some kA ∧ kA.kind = .array comp (.object C9) ∧ s.vm.findClass C9 = some comp ∧ s.vm.findClass ("[" ++ (FieldType.object C9).toString) = some cA := (hK.2 t0 _ ht).2
  have ec : cA' = cA := Option.some.inj (f1.symm.trans hra)
  subst ec
  generalize hH1 : H.push ({ cls := cA', slots := Array.replicate n .null, vm := .none } : Cell) = H1
  have z1 : H1.size = H.size + 1 := by rw [← hH1, Array.size_push]
  have e1 : H1[H.size]? = some (arrV cA' n (fun _ => .null)) := by rw [← hH1, Array.getElem?_push_size, ← arrV_new]
  have o1 : ∀ q : Nat, q < H.size → H1[q]? = H[q]? := fun q hq => by rw [← hH1, Array.getElem?_push, if_neg (Nat.ne_of_lt hq)]
  rw [hz]
  exact kk H1 (by rw [← hz]; exact hM.new (Nat.le_trans hN hS.1) e1 o1) (z_S hS (by omega) o1) (show H1.size = z + 1 by omega)
theorem z_outer (c : ClassId) (N h0 : Nat) : ∀ i : Nat, Jvm.Free.Multi.outerC c N h0 i = arrV c N (fun j => va_rf (if j < i then some (h0 + 1 + j) else none)) := by
  intro i
  induction i with
  | zero =>
    show ({ cls := c, slots := Array.replicate N .null, vm := .none } : Cell) = _
    rw [arrV_new]
    refine congrArg (arrV c N) (funext fun j => ?_)
    simp [va_rf]
  | succ i ih =>
    show (Jvm.Free.Multi.outerC c N h0 i).setSlot i (.ref (h0 + 1 + i)) = _
    rw [ih, arrV_store]
    refine congrArg (arrV c N) (funext fun j => ?_)
    by_cases e : j = i
    · subst e
      simp [updV, va_rf]
    · by_cases h : j < i
      · simp [updV, e, h, Nat.lt_succ_of_lt h]
      · simp [updV, e, h, show ¬ j < i + 1 by omega]
theorem r_mna {cA cI9 : ClassId} {n k : Nat} (C : xC p s m args meth c cc nL ret own Ts D cl tys N0) (hM : xW D cl N0 M H) (hS : va_S (xA N0) s.heap H locs) (hz : zsz H z) (ht0 : tys[0]? = some (cI9, .int)) (ht : tys[3]? = some (cA, .array .int)) (hclink : (Cond.classLink own index "[[I").before args s = true) (hover : zAO s) (harr : (Cond.arrayClass .int).before args s = true) (hn : n < 100) (hk : k < 100) (hc : cells + (1 + n) ≤ R.cells) (hs : slots + (n + n * k) ≤ R.slots) (hdg : decode cc pc = .ok (.multianewarray index 2, 4))
    (kk : ∀ H1 : Heap, xW D cl N0 (xrow (xset M z (xQ cA n (fun i => if i < n then some (z + 1 + i) else none))) (z + 1) n (xI cI9 k (fun _ => 0))) H1 → va_S (xA N0) s.heap H1 locs → zsz H1 (z + 1 + n) → W p l e R s m args below meth c H1 locs (cells + 1 + n) (slots + n + n * k) Q (F0 m (pc + 4) ls (.ref z :: rest))) : W p l e R s m args below meth c H locs cells slots Q (F0 m pc ls (.int (nI k) :: .int (nI n) :: rest)) := by
  obtain ⟨hx, hb, hml, hown, hts, hr, hlocks, hK, hN⟩ := C
  have hz : H.size = z := hz
  have e0 : (nI n).toNatClampNeg = n := nI_clamp (by omega)
  have e9 : (nI k).toNatClampNeg = k := nI_clamp (by omega)
  intro T hT Xs
  obtain ⟨vm₁, cA', comp, -, fA, fC, hO, -, X', step⟩ := Xs.multianewarray2F (ty := .int) hx hown hclink hover harr (g := F0 m pc ls (.int (nI k) :: .int (nI n) :: rest)) rfl (by rw [hb]; exact hdg) rfl (nI_n0 (by omega)) (nI_n0 (by omega)) (by rw [e0]; omega) (by rw [e9]; show k * 4 ≤ _; omega) (by rw [e9]; omega) rfl rfl (by rw [e0]; exact hc) (by rw [e0, e9]; exact hs)
  rw [e0, e9] at X' step
  have h1 : s.vm.findClass ("[" ++ (FieldType.array .int).toString) = some cA := (hK.2 3 _ ht).2
  have h2 : s.vm.findClass ("[" ++ (FieldType.int).toString) = some cI9 := (hK.2 0 _ ht0).2
  have ec : cA' = cA := Option.some.inj (fA.symm.trans h1)
  have ec2 : comp = cI9 := Option.some.inj (fC.symm.trans h2)
  subst ec
  subst ec2
  generalize hF : Jvm.Free.Multi.fill (T.setVm vm₁) cA' comp n k (defaultValue .int) n = F at X' step
  have hTh : (T.setVm vm₁).heap = H := hT
  obtain ⟨f1, f2, -, -⟩ := Jvm.Free.Multi.fill_facts (T.setVm vm₁) cA' comp n k (defaultValue .int) n
  rw [hF, hTh] at f1 f2
  have hold : ∀ x : Nat, x < H.size → F.heap[x]? = H[x]? := fun x hx9 => by
    have := Jvm.Free.Multi.fill_old (T.setVm vm₁) cA' comp n k (defaultValue .int) (a := x) (by rw [hTh]; exact hx9) n
    rw [hF, hTh] at this
    exact this
  have hrow : ∀ j : Nat, j < n → F.heap[H.size + 1 + j]? = some (vp_cell comp (k, .inl (fun _ => 0))) := fun j hj => by
    have := Jvm.Free.Multi.fill_inner (T.setVm vm₁) cA' comp n k (defaultValue .int) n j hj
    rw [hF, hTh] at this
    rw [this, vp_cell_i, ← arrV_new]
    rfl
  have hout : Jvm.Free.Multi.outerC cA' n H.size n = vp_cell cA' (n, .inr (.inr (.inr (.inr (fun i => if i < n then some (H.size + 1 + i) else none))))) := by
    rw [vp_cell_q]
    exact z_outer cA' n H.size n
  rw [hout] at f2
  have hM1 : xW D cl N0 (xset M z (xQ cA' n (fun i => if i < n then some (z + 1 + i) else none))) F.heap := by
    rw [← hz]
    exact hM.new (Nat.le_trans hN hS.1) f2 hold
  have hM2 := hM1.rows (z := z + 1) (e := xI comp k (fun _ => 0)) (by have := hS.1; omega) n (fun j hj => by rw [xset_n (by omega)]; exact hM.no (by omega)) (fun j hj => by rw [← hz]; exact hrow j hj)
  obtain ⟨t, a1, b1⟩ := kk F.heap hM2 (z_S hS (by omega) hold) (show F.heap.size = z + 1 + n by omega) F rfl X'
  refine ⟨t, step t ?_, b1⟩
  have e : T.heap.size = z := by rw [hT]; exact hz
  rw [e]
  exact a1
theorem r_astq {cA : ClassId} {r : vw_C} {n v ci t0 i : Nat} {vs : List Value} {f : Nat → Option Nat} (C : xC p s m args meth c cc nL ret own Ts D cl tys N0) (hM : xW D cl N0 M H) (hS : va_S (xA N0) s.heap H locs) (hz : zsz H z) (ha : M a = some (xQ cA n f)) (ht : tys[t0]? = some (cA, .object r.1)) (hv : M v = some (xO ci vs)) (hci : cl[ci]? = some r) (hi : i < n) (hn : n < 1000) (hdg : decode cc pc = .ok (.aastore, 1))
    (kk : ∀ (H1 : Heap) (locs1 : List Loc), xW D cl N0 (xset M a (xQ cA n (va_up f i (some v)))) H1 → va_S (xA N0) s.heap H1 locs1 → zsz H1 z → W p l e R s m args below meth c H1 locs1 cells slots Q (F0 m (pc + 1) ls rest)) : W p l e R s m args below meth c H locs cells slots Q (F0 m pc ls (.ref v :: .int (nI i) :: .ref a :: rest)) := by
  obtain ⟨hx, hb, hml, hown, hts, hr, hlocks, hK, hN⟩ := C
  have hz : H.size = z := hz
  obtain ⟨ws, hP, hD, hm⟩ := hM
  obtain ⟨q0, hq0⟩ := (hm a _).mp ha
  obtain ⟨qk, hqk⟩ := (hm v _).mp hv
  have e0 : (nI i).toNatClampNeg = i := nI_clamp (by omega)
  have h0 : ¬ nI i < 0 := nI_n0 (by omega)
  have hin : vp_in (nI i) n := fun q => by
    rcases q with q | q
    · exact h0 q
    · omega
  obtain ⟨r', hr', cellV, g1, g2, g3, -⟩ := hP qk _ hqk
  have hcls := (hK.1 ci r hci).2
  obtain ⟨kA, comp, k1, k2, k3, -⟩ := (hK.2 t0 _ ht).2
  have hcomp : comp = D.1 ci := Option.some.inj (k3.symm.trans hcls.1)
  subst hcomp
  obtain ⟨kC, hkC, -⟩ := hcls.2
  refine W.aast hx hb (hP q0 _ hq0) (fun q h => by cases h) (fun h => by cases h) k1 k2 rfl hkC ⟨h0, by show _ < (arrV _ _ _).slots.size; rw [arrV_size, e0]; exact hi⟩ g1 (fun q h => by rw [g3] at h; cases h) (by rw [g2]; exact hkC) (by rw [g2]; exact va_assign hcls) rfl rfl hdg fun H1 e z9 oq => ?_
  refine kk H1 _ (xW.put hD hm hq0 (hP.set hD hq0 ?_ oq) (hD.set hq0)) (hS.put z9 oq (hD.2 q0 _ hq0)) (show H1.size = z by rw [z9]; exact hz)
  show H1[a]? = some (vp_cell _ _)
  rw [e]
  rw [vp_cell_q, vp_cell_q, arrV_store, e0]
  congr 2
  funext q
  by_cases hq : q = i
  · subst hq
    simp [updV, va_up, va_rf]
  · simp [updV, va_up, hq]
theorem r_objI (C : xC p s m args meth c cc nL ret own Ts D cl tys N0) (hlk : (Cond.methodLink own index objectInit).before args s = true) (hin : (Cond.instanceMethod objectInit).before args s = true) (hcd : (Cond.code objectInit ⟨#[0xb1]⟩ 1 none).before args s = true) (hl : ls.size = nL) (hframes : 1 ≤ R.frames) (hlocals : (rest.map fun v => v.category).sum + 12 ≤ R.locals) (hdg : decode cc pc = .ok (.invokespecial index, 3)) (kk : W p l e R s m args below meth c H locs cells slots Q (F0 m (pc + 3) ls rest)) : W p l e R s m args below meth c H locs cells slots Q (F0 m pc ls (.ref a :: rest)) := by
  obtain ⟨hx, hb, hml, hown, hts, hr, hlocks, hK, hN⟩ := C
  exact W.objInit hx hb hown hlk hin hcd (g := F0 m pc ls (.ref a :: rest)) rfl (by show ls.size = _; rw [hl, hml]) rfl hdg hframes (by show 2 * 0 + _ + 12 ≤ _; omega) kk
end ZROWS
abbrev zR (d mc ms : Nat) : Room := { frames := d, cells := mc, slots := ms, locals := 40 * d }
abbrev cN (l : Launch) (y : MethodName) (ws : List Cond) (d mc ms : Nat) (av : List Value) (D : va_G) (kA : Nat → ClassId) (N0 z z1 : Nat) (M : xM) (post : xM → Prop) : Prop := Met l y ws (zR d mc ms) (va_Pc av (zB D vwCl (xT kA) N0 z M)) (va_Qv post (zB D vwCl (xT kA) N0 z1) (xA N0)) mc ms (xA N0)
