-- THE WORLD AS A MAP: which cell lies at an address. N0: the heap's size when the law began: all cells of ours lie behind it
abbrev xM : Type := Nat → Option va_E
def xset (M : xM) (a : Nat) (e : va_E) : xM := fun b => if b = a then some e else M b
theorem xset_s {M : xM} {a : Nat} {e : va_E} : xset M a e a = some e := by simp [xset]
theorem xset_n {M : xM} {a b : Nat} {e : va_E} (h : b ≠ a) : xset M a e b = M b := by simp [xset, h]
abbrev xA (N0 : Nat) : Nat → Prop := fun q => N0 ≤ q
def xW (D : va_G) (cl : List vw_C) (N0 : Nat) (M : xM) (H : Heap) : Prop := ∃ ws : va_W, va_P D cl ws H ∧ va_D (xA N0) ws ∧ ∀ (a : Nat) (e : va_E), M a = some e ↔ ∃ k : Nat, ws[k]? = some (a, e)
theorem xW.put {D : va_G} {cl : List vw_C} {N0 : Nat} {M : xM} {ws : va_W} {a k : Nat} {e0 e : va_E} {H1 : Heap} (hD : va_D (xA N0) ws) (hm : ∀ (a : Nat) (e : va_E), M a = some e ↔ ∃ k : Nat, ws[k]? = some (a, e)) (hk : ws[k]? = some (a, e0)) (hP1 : va_P D cl (ws.set k (a, e)) H1) (hD1 : va_D (xA N0) (ws.set k (a, e))) : xW D cl N0 (xset M a e) H1 := by
  refine ⟨ws.set k (a, e), hP1, hD1, fun b e' => ?_⟩
  have hl := (List.getElem?_eq_some_iff.mp hk).1
  constructor
  · intro h
    by_cases hb : b = a
    · subst hb
      rw [xset_s] at h
      cases h
      exact ⟨k, List.getElem?_set_self hl⟩
    · rw [xset_n hb] at h
      obtain ⟨j, hj⟩ := (hm b e').mp h
      have hjk : k ≠ j := by
        intro q
        subst q
        rw [hk] at hj
        cases hj
        exact hb rfl
      exact ⟨j, by rw [List.getElem?_set_ne hjk]; exact hj⟩
  · rintro ⟨j, hj⟩
    by_cases hjk : k = j
    · subst hjk
      rw [List.getElem?_set_self hl] at hj
      cases hj
      exact xset_s
    · rw [List.getElem?_set_ne hjk] at hj
      have hb : b ≠ a := by
        intro q
        subst q
        exact hjk (hD.1 k j _ _ hk hj rfl)
      rw [xset_n hb]
      exact (hm b e').mpr ⟨j, hj⟩
theorem xW.lt {D : va_G} {cl : List vw_C} {N0 : Nat} {M : xM} {H : Heap} (h : xW D cl N0 M H) {a : Nat} {e : va_E} (ha : M a = some e) : a < H.size := by
  obtain ⟨ws, hP, hD, hm⟩ := h
  obtain ⟨k, hk⟩ := (hm a e).mp ha
  exact (hP k _ hk).lt
theorem xW.ge {D : va_G} {cl : List vw_C} {N0 : Nat} {M : xM} {H : Heap} (h : xW D cl N0 M H) {a : Nat} {e : va_E} (ha : M a = some e) : N0 ≤ a := by
  obtain ⟨ws, hP, hD, hm⟩ := h
  obtain ⟨k, hk⟩ := (hm a e).mp ha
  exact hD.2 k _ hk
theorem xW.no {D : va_G} {cl : List vw_C} {N0 : Nat} {M : xM} {H : Heap} (h : xW D cl N0 M H) {a : Nat} (ha : H.size ≤ a) : M a = none := by
  cases hM : M a with
  | none => rfl
  | some e => have := h.lt hM; omega
/-- a new cell at the heap's end -/
theorem xW.new {D : va_G} {cl : List vw_C} {N0 : Nat} {M : xM} {H H1 : Heap} {e : va_E} (h : xW D cl N0 M H) (hN : N0 ≤ H.size) (he : va_at D cl (H.size, e) H1) (ho : ∀ q, q < H.size → H1[q]? = H[q]?) : xW D cl N0 (xset M H.size e) H1 := by
  have hno : M H.size = none := h.no (Nat.le_refl _)
  obtain ⟨ws, hP, hD, hm⟩ := h
  refine ⟨ws ++ [(H.size, e)], ?_, hD.push hP rfl hN, fun b e' => ?_⟩
  · refine va_P.app (hP.kept fun k q hk => ho q.1 (hP k q hk).lt) ?_
    intro k q hk
    have hz : k < 1 := (List.getElem?_eq_some_iff.mp hk).1
    rw [show k = 0 by omega] at hk
    cases hk
    exact he
  · constructor
    · intro hb
      by_cases hq : b = H.size
      · subst hq
        rw [xset_s] at hb
        cases hb
        exact ⟨ws.length, by simp⟩
      · rw [xset_n hq] at hb
        obtain ⟨j, hj⟩ := (hm b e').mp hb
        exact ⟨j, by rw [List.getElem?_append_left (List.getElem?_eq_some_iff.mp hj).1]; exact hj⟩
    · rintro ⟨j, hj⟩
      by_cases hjl : j < ws.length
      · rw [List.getElem?_append_left hjl] at hj
        have hb := (hm b e').mpr ⟨j, hj⟩
        have hq : b ≠ H.size := by
          intro q
          rw [q, hno] at hb
          cases hb
        rw [xset_n hq]
        exact hb
      · rw [List.getElem?_append_right (by omega)] at hj
        have hz : j - ws.length < 1 := (List.getElem?_eq_some_iff.mp hj).1
        rw [show j - ws.length = 0 by omega] at hj
        cases hj
        exact xset_s
theorem xW.none {D : va_G} {cl : List vw_C} {N0 : Nat} {H : Heap} : xW D cl N0 (fun _ => none) H := by
  refine ⟨[], fun k q h => by simp at h, ⟨fun i j p q h => by simp at h, fun k q h => by simp at h⟩, fun a e => ?_⟩
  constructor
  · intro h; cases h
  · rintro ⟨k, h⟩; simp at h
abbrev xI (cA : ClassId) (n : Nat) (f : Nat → Int32) : va_E := .inl (cA, n, .inl f)
abbrev xQ (cA : ClassId) (n : Nat) (f : Nat → Option Nat) : va_E := .inl (cA, n, .inr (.inr (.inr (.inr f))))
abbrev xO (ci : Nat) (fs : List Value) : va_E := .inr (ci, fs)
section XROWS
variable {p : Program} {l : Launch} {e : Env} {R : Room} {s : State} {m : MethodId} {args : Array Value} {below : List Frame} {meth : Method} {c : Code} {H : Heap} {locs : List Loc} {cells slots : Nat} {Q : State → Prop}
variable {cc : ByteArray} {pc : Nat} {ls : Array Slot} {rest : List Value} {D : va_G} {cl : List vw_C} {a : Nat} {tys : List (ClassId × FieldType)} {H0 : Heap} {N0 : Nat} {M : xM}
theorem x_iald (hexec : p.tables.exec = Jvm.exec) (hb : c.code = cc) (hK : va_K D cl tys s) (hM : xW D cl N0 M H) (t0 : Nat) {cA : ClassId} {n : Nat} {f : Nat → Int32} (ha : M a = some (xI cA n f)) (ht : tys[t0]? = some (cA, .int)) {i : Nat} (hi : i < n) (hn : n < 2 ^ 31) (hdg : decode cc pc = .ok (.iaload, 1))
    (kk : W p l e R s m args below meth c H locs cells slots Q (F0 m (pc + 1) ls (.int (f i) :: rest))) : W p l e R s m args below meth c H locs cells slots Q (F0 m pc ls (.int (nI i) :: .ref a :: rest)) := by
  obtain ⟨ws, hP, hD, hm⟩ := hM
  obtain ⟨k, hk⟩ := (hm a _).mp ha
  refine va_iald hexec hb hK hP k t0 hk ht (vp_in_nI hi hn) hdg ?_
  rw [nI_clamp (by omega)]
  exact kk
theorem x_iast (hexec : p.tables.exec = Jvm.exec) (hb : c.code = cc) (hK : va_K D cl tys s) (hM : xW D cl N0 M H) (hS : va_S (xA N0) H0 H locs) (t0 : Nat) {cA : ClassId} {n : Nat} {f : Nat → Int32} (ha : M a = some (xI cA n f)) (ht : tys[t0]? = some (cA, .int)) {i : Nat} {x : Int32} (hi : i < n) (hn : n < 2 ^ 31) (hdg : decode cc pc = .ok (.iastore, 1))
    (kk : ∀ (H1 : Heap) (locs1 : List Loc), xW D cl N0 (xset M a (xI cA n (upd f i x))) H1 → va_S (xA N0) H0 H1 locs1 → W p l e R s m args below meth c H1 locs1 cells slots Q (F0 m (pc + 1) ls rest)) : W p l e R s m args below meth c H locs cells slots Q (F0 m pc ls (.int x :: .int (nI i) :: .ref a :: rest)) := by
  obtain ⟨ws, hP, hD, hm⟩ := hM
  obtain ⟨k, hk⟩ := (hm a _).mp ha
  refine va_iast hexec hb hK hP hD hS k t0 hk ht (vp_in_nI hi hn) hdg (fun H1 locs1 hP1 hD1 hS1 => ?_)
  rw [nI_clamp (by omega)] at hP1 hD1
  exact kk H1 locs1 (xW.put hD hm hk hP1 hD1) hS1
theorem x_alen (hexec : p.tables.exec = Jvm.exec) (hb : c.code = cc) (hK : va_K D cl tys s) (hM : xW D cl N0 M H) (t0 : Nat) {cA : ClassId} {x : vp_A} (ha : M a = some (.inl (cA, x))) {ty : FieldType} (ht : tys[t0]? = some (cA, ty)) (hdg : decode cc pc = .ok (.arraylength, 1))
    (kk : W p l e R s m args below meth c H locs cells slots Q (F0 m (pc + 1) ls (.int (nI x.1) :: rest))) : W p l e R s m args below meth c H locs cells slots Q (F0 m pc ls (.ref a :: rest)) := by
  obtain ⟨ws, hP, hD, hm⟩ := hM
  obtain ⟨k, hk⟩ := (hm a _).mp ha
  exact va_alen hexec hb hK hP k t0 hk ht (v := nI x.1) rfl hdg kk
theorem x_get (hexec : p.tables.exec = Jvm.exec) (hb : c.code = cc) {own ref C : String} {T : u_T} {N ci index : Nat} {Ts : List Cond} (hts : ∀ w ∈ Ts, w.before args s = true) (hin : ∀ w ∈ u_ws C T N, w ∈ Ts) (hown : s.vm.findClass own = some m.cls) (hK : va_K D cl tys s) (hM : xW D cl N0 M H) {fs : List Value} (he : M a = some (xO ci fs)) (hc : cl[ci]? = some (C, T, N)) (k : Nat) (hk : k < N) (hlink : (Cond.fieldLink own index ref (T k).2.1 (T k).2.2.1).before args s = true) (hsame : ∀ x, s.fieldFound? (T k).1 (T k).2.1 (T k).2.2.1 = some x → s.fieldFound? ref (T k).2.1 (T k).2.2.1 = some x) {v : Value} (hv : fs[k]? = some v) (hdg : decode cc pc = .ok (.getfield index, 3))
    (kk : W p l e R s m args below meth c H locs cells slots Q (F0 m (pc + 3) ls (v :: rest))) : W p l e R s m args below meth c H locs cells slots Q (F0 m pc ls (.ref a :: rest)) := by
  obtain ⟨ws, hP, hD, hm⟩ := hM
  obtain ⟨j, hj⟩ := (hm a _).mp he
  exact va_get hexec hb hts hin hown hK hP j hj hc k hk hlink hsame hv hdg kk
theorem x_getN (hexec : p.tables.exec = Jvm.exec) (hb : c.code = cc) {own ref C host : String} {T : u_T} {N ci index : Nat} {Ts : List Cond} (hts : ∀ w ∈ Ts, w.before args s = true) (hin : ∀ w ∈ u_ws C T N, w ∈ Ts) (hown : s.vm.findClass own = some m.cls) (hK : va_K D cl tys s) (hM : xW D cl N0 M H) {fs : List Value} (he : M a = some (xO ci fs)) (hc : cl[ci]? = some (C, T, N)) (k : Nat) (hk : k < N) (hlink : (Cond.fieldLinkNest own index ref (T k).2.1 (T k).2.2.1 host).before args s = true) (hsame : ∀ x, s.fieldFound? (T k).1 (T k).2.1 (T k).2.2.1 = some x → s.fieldFound? ref (T k).2.1 (T k).2.2.1 = some x) {v : Value} (hv : fs[k]? = some v) (hdg : decode cc pc = .ok (.getfield index, 3))
    (kk : W p l e R s m args below meth c H locs cells slots Q (F0 m (pc + 3) ls (v :: rest))) : W p l e R s m args below meth c H locs cells slots Q (F0 m pc ls (.ref a :: rest)) := by
  obtain ⟨ws, hP, hD, hm⟩ := hM
  obtain ⟨j, hj⟩ := (hm a _).mp he
  exact va_getN hexec hb hts hin hown hK hP j hj hc k hk hlink hsame hv hdg kk
theorem x_put (hexec : p.tables.exec = Jvm.exec) (hb : c.code = cc) {own ref C : String} {T : u_T} {N ci index : Nat} {Ts : List Cond} (hts : ∀ w ∈ Ts, w.before args s = true) (hin : ∀ w ∈ u_ws C T N, w ∈ Ts) (ty0 : Nat → FieldType) (hty : ∀ k, k < N → parseFieldDescriptor (T k).2.2.1 = some (ty0 k)) (hnm : ∀ a, a < N → ∀ b, b < N → a ≠ b → (T a).2.1 ≠ (T b).2.1) (hown : s.vm.findClass own = some m.cls) (hK : va_K D cl tys s) (hM : xW D cl N0 M H) (hS : va_S (xA N0) H0 H locs) {fs : List Value} (he : M a = some (xO ci fs)) (hc : cl[ci]? = some (C, T, N)) (k : Nat) (hk : k < N) (hlink : (Cond.fieldLink own index ref (T k).2.1 (T k).2.2.1).before args s = true) (hsame : ∀ x, s.fieldFound? (T k).1 (T k).2.1 (T k).2.2.1 = some x → s.fieldFound? ref (T k).2.1 (T k).2.2.1 = some x) (hfin : (T k).2.2.2 = false) {ty : FieldType} {v : Value} (hd : parseFieldDescriptor (T k).2.2.1 = some ty) (hn : narrow ty v = v) (hfit : fits ty v = true) (hl : k < fs.length)
    (hdg : decode cc pc = .ok (.putfield index, 3)) (kk : ∀ (H1 : Heap) (locs1 : List Loc), xW D cl N0 (xset M a (xO ci (fs.set k v))) H1 → va_S (xA N0) H0 H1 locs1 → W p l e R s m args below meth c H1 locs1 cells slots Q (F0 m (pc + 3) ls rest)) : W p l e R s m args below meth c H locs cells slots Q (F0 m pc ls (v :: .ref a :: rest)) := by
  obtain ⟨ws, hP, hD, hm⟩ := hM
  obtain ⟨j, hj⟩ := (hm a _).mp he
  exact va_put hexec hb hts hin ty0 hty hnm hown hK hP hD hS j hj hc k hk hlink hsame hfin hd hn hfit hl hdg (fun H1 locs1 hP1 hD1 hS1 => kk H1 locs1 (xW.put hD hm hj hP1 hD1) hS1)
theorem x_putN (hexec : p.tables.exec = Jvm.exec) (hb : c.code = cc) {own ref C host : String} {T : u_T} {N ci index : Nat} {Ts : List Cond} (hts : ∀ w ∈ Ts, w.before args s = true) (hin : ∀ w ∈ u_ws C T N, w ∈ Ts) (ty0 : Nat → FieldType) (hty : ∀ k, k < N → parseFieldDescriptor (T k).2.2.1 = some (ty0 k)) (hnm : ∀ a, a < N → ∀ b, b < N → a ≠ b → (T a).2.1 ≠ (T b).2.1) (hown : s.vm.findClass own = some m.cls) (hK : va_K D cl tys s) (hM : xW D cl N0 M H) (hS : va_S (xA N0) H0 H locs) {fs : List Value} (he : M a = some (xO ci fs)) (hc : cl[ci]? = some (C, T, N)) (k : Nat) (hk : k < N) (hlink : (Cond.fieldLinkNest own index ref (T k).2.1 (T k).2.2.1 host).before args s = true) (hsame : ∀ x, s.fieldFound? (T k).1 (T k).2.1 (T k).2.2.1 = some x → s.fieldFound? ref (T k).2.1 (T k).2.2.1 = some x) (hfin : (T k).2.2.2 = false) {ty : FieldType} {v : Value} (hd : parseFieldDescriptor (T k).2.2.1 = some ty) (hn : narrow ty v = v) (hfit : fits ty v = true) (hl : k < fs.length)
    (hdg : decode cc pc = .ok (.putfield index, 3)) (kk : ∀ (H1 : Heap) (locs1 : List Loc), xW D cl N0 (xset M a (xO ci (fs.set k v))) H1 → va_S (xA N0) H0 H1 locs1 → W p l e R s m args below meth c H1 locs1 cells slots Q (F0 m (pc + 3) ls rest)) : W p l e R s m args below meth c H locs cells slots Q (F0 m pc ls (v :: .ref a :: rest)) := by
  obtain ⟨ws, hP, hD, hm⟩ := hM
  obtain ⟨j, hj⟩ := (hm a _).mp he
  exact va_putN hexec hb hts hin ty0 hty hnm hown hK hP hD hS j hj hc k hk hlink hsame hfin hd hn hfit hl hdg (fun H1 locs1 hP1 hD1 hS1 => kk H1 locs1 (xW.put hD hm hj hP1 hD1) hS1)
theorem x_putF (hexec : p.tables.exec = Jvm.exec) (hb : c.code = cc) {own ref C : String} {T : u_T} {N ci index : Nat} {Ts : List Cond} (hts : ∀ w ∈ Ts, w.before args s = true) (hin : ∀ w ∈ u_ws C T N, w ∈ Ts) (ty0 : Nat → FieldType) (hty : ∀ k, k < N → parseFieldDescriptor (T k).2.2.1 = some (ty0 k)) (hnm : ∀ a, a < N → ∀ b, b < N → a ≠ b → (T a).2.1 ≠ (T b).2.1) (hown : s.vm.findClass own = some m.cls) (hK : va_K D cl tys s) (hM : xW D cl N0 M H) (hS : va_S (xA N0) H0 H locs) {fs : List Value} (he : M a = some (xO ci fs)) (hc : cl[ci]? = some (C, T, N)) (k : Nat) (hk : k < N) (hlink : (Cond.fieldLink own index ref (T k).2.1 (T k).2.2.1).before args s = true) (hsame : ∀ x, s.fieldFound? (T k).1 (T k).2.1 (T k).2.2.1 = some x → s.fieldFound? ref (T k).2.1 (T k).2.2.1 = some x) (hfin : (T k).2.2.2 = true) (hin2 : meth.name = "<init>") (hdecl : (T k).1 = own) {ty : FieldType} {v : Value} (hd : parseFieldDescriptor (T k).2.2.1 = some ty) (hn : narrow ty v = v) (hfit : fits ty v = true) (hl : k < fs.length)
    (hdg : decode cc pc = .ok (.putfield index, 3)) (kk : ∀ (H1 : Heap) (locs1 : List Loc), xW D cl N0 (xset M a (xO ci (fs.set k v))) H1 → va_S (xA N0) H0 H1 locs1 → W p l e R s m args below meth c H1 locs1 cells slots Q (F0 m (pc + 3) ls rest)) : W p l e R s m args below meth c H locs cells slots Q (F0 m pc ls (v :: .ref a :: rest)) := by
  obtain ⟨ws, hP, hD, hm⟩ := hM
  obtain ⟨j, hj⟩ := (hm a _).mp he
  exact va_putF hexec hb hts hin ty0 hty hnm hown hK hP hD hS j hj hc k hk hlink hsame hfin hin2 hdecl hd hn hfit hl hdg (fun H1 locs1 hP1 hD1 hS1 => kk H1 locs1 (xW.put hD hm hj hP1 hD1) hS1)
end XROWS
-- CONTRACTS OVER THE MAP: any map M that the heap holds; the method's answer and the new map
def xB (D : va_G) (cl : List vw_C) (tys : List (ClassId × FieldType)) (N0 : Nat) (M : xM) (U : State) : Prop := N0 ≤ U.heap.size ∧ xW D cl N0 M U.heap ∧ va_K D cl tys U
theorem x_blind {av : List Value} {D : va_G} {cl : List vw_C} {tys : List (ClassId × FieldType)} {N0 : Nat} {M : xM} : FrameBlind (va_Pc av (xB D cl tys N0 M)) := fun a U g mk q => by
  obtain ⟨q0, q1, q2, qK⟩ := q
  exact ⟨q0, q1, q2, va_K.moved (u := U) (U := U.calling g mk a) (Vm.Alike.refl U.vm) qK⟩
theorem x_pre {av : List Value} {D : va_G} {cl : List vw_C} {tys : List (ClassId × FieldType)} {N0 : Nat} {M : xM} {s : State} {H : Heap} {locs : List Loc} (hK : va_K D cl tys s) (hM : xW D cl N0 M H) (hN : N0 ≤ s.heap.size) (hS : va_S (xA N0) s.heap H locs) : PreS s H (va_Pc av (xB D cl tys N0 M)) av :=
  ⟨x_blind, fun U hU hW => ⟨rfl, by rw [hU]; exact Nat.le_trans hN hS.1, by rw [hU]; exact hM, va_K.moved hW.alike hK⟩⟩
theorem x_preV {b : Nat} {av : List Value} {D : va_G} {cl : List vw_C} {tys : List (ClassId × FieldType)} {N0 : Nat} {M : xM} {s : State} {H : Heap} {locs : List Loc} {ci : Nat} {fs : List Value} {q : vw_C} (hK : va_K D cl tys s) (hM : xW D cl N0 M H) (hN : N0 ≤ s.heap.size) (hS : va_S (xA N0) s.heap H locs) (he : M b = some (xO ci fs)) (hc : cl[ci]? = some q) : PreV s H q.1 b (va_Pc (.ref b :: av) (xB D cl tys N0 M)) av := by
  refine ⟨x_blind, ?_, fun U hU hW => ⟨rfl, by rw [hU]; exact Nat.le_trans hN hS.1, by rw [hU]; exact hM, va_K.moved hW.alike hK⟩⟩
  obtain ⟨ws, hP, hD, hm⟩ := hM
  obtain ⟨k, hk⟩ := (hm b _).mp he
  exact va_recv hK hP hc hk
section XCALLS
variable {p : Program} {l : Launch} {e : Env} {R : Room} {s : State} {m : MethodId} {args : Array Value} {below : List Frame} {meth : Method} {c : Code} {H : Heap} {locs : List Loc} {cells slots : Nat} {Q : State → Prop}
variable {pc : Nat} {ls : Array Slot} {rest st0 : List Value} {a : Array Value} {mc ms N0 : Nat} {D : va_G} {cl : List vw_C} {tys : List (ClassId × FieldType)}
theorem x_calli {post : Int32 → xM → Prop} (hr : va_Run p l e R s m args below meth c H locs cells slots mc ms (F0 m pc ls st0) rest (va_Qi post (xB D cl tys N0) (xA N0) a) (xA N0)) (hS : va_S (xA N0) s.heap H locs)
    (kk : ∀ (r : Int32) (M1 : xM) (H1 : Heap) (locs1 : List Loc), post r M1 → xW D cl N0 M1 H1 → va_S (xA N0) s.heap H1 locs1 → W p l e R s m args below meth c H1 locs1 (cells + mc) (slots + ms) Q (F0 m (pc + 3) ls (.int r :: rest))) : W p l e R s m args below meth c H locs cells slots Q (F0 m pc ls st0) :=
  va_calli hr hS (fun _ _ h => h) (fun _ h => h) (fun r u t H1 locs1 ht hvm hp hB hz hk hS1 => kk r u H1 locs1 hp (by rw [← ht]; exact hB.2.1) hS1)
theorem x_calll {post : Int64 → xM → Prop} (hr : va_Run p l e R s m args below meth c H locs cells slots mc ms (F0 m pc ls st0) rest (va_Ql post (xB D cl tys N0) (xA N0) a) (xA N0)) (hS : va_S (xA N0) s.heap H locs)
    (kk : ∀ (r : Int64) (M1 : xM) (H1 : Heap) (locs1 : List Loc), post r M1 → xW D cl N0 M1 H1 → va_S (xA N0) s.heap H1 locs1 → W p l e R s m args below meth c H1 locs1 (cells + mc) (slots + ms) Q (F0 m (pc + 3) ls (.long r :: rest))) : W p l e R s m args below meth c H locs cells slots Q (F0 m pc ls st0) :=
  va_calll hr hS (fun _ _ h => h) (fun _ h => h) (fun r u t H1 locs1 ht hvm hp hB hz hk hS1 => kk r u H1 locs1 hp (by rw [← ht]; exact hB.2.1) hS1)
theorem x_callv {post : xM → Prop} (hr : va_Run p l e R s m args below meth c H locs cells slots mc ms (F0 m pc ls st0) rest (va_Qv post (xB D cl tys N0) (xA N0) a) (xA N0)) (hS : va_S (xA N0) s.heap H locs)
    (kk : ∀ (M1 : xM) (H1 : Heap) (locs1 : List Loc), post M1 → xW D cl N0 M1 H1 → va_S (xA N0) s.heap H1 locs1 → W p l e R s m args below meth c H1 locs1 (cells + mc) (slots + ms) Q (F0 m (pc + 3) ls rest)) : W p l e R s m args below meth c H locs cells slots Q (F0 m pc ls st0) :=
  va_callv hr hS (fun _ _ h => h) (fun _ h => h) (fun u t H1 locs1 ht hvm hp hB hz hk hS1 => kk u H1 locs1 hp (by rw [← ht]; exact hB.2.1) hS1)
theorem x_callr {post : xM × Nat → Prop} (hr : va_Run p l e R s m args below meth c H locs cells slots mc ms (F0 m pc ls st0) rest (va_Qr (S := xM) (fun _ => True) (fun M1 ra t => post (M1, ra) ∧ xB D cl tys N0 M1 t) (xA N0) a) (xA N0)) (hS : va_S (xA N0) s.heap H locs)
    (kk : ∀ (ra : Nat) (M1 : xM) (H1 : Heap) (locs1 : List Loc), post (M1, ra) → xW D cl N0 M1 H1 → va_S (xA N0) s.heap H1 locs1 → W p l e R s m args below meth c H1 locs1 (cells + mc) (slots + ms) Q (F0 m (pc + 3) ls (.ref ra :: rest))) : W p l e R s m args below meth c H locs cells slots Q (F0 m pc ls st0) :=
  va_callr hr hS (fun _ _ h => h) (fun _ h => h) (fun u ra t H1 locs1 ht hvm hp hB hz hk hS1 => kk ra u H1 locs1 hB.1 (by rw [← ht]; exact hB.2.2.1) hS1)
end XCALLS

/-- what stays the same while a method runs: the machine, its code, its words, the classes; N0: the heap's size when the law began -/
def xC (p : Program) (s : State) (m : MethodId) (args : Array Value) (meth : Method) (c : Code) (cc : ByteArray) (nL : Nat) (ret : Option FieldType) (own : String) (Ts : List Cond) (D : va_G) (cl : List vw_C) (tys : List (ClassId × FieldType)) (N0 : Nat) : Prop :=
  p.tables.exec = Jvm.exec ∧ c.code = cc ∧ c.maxLocals = nL ∧ s.vm.findClass own = some m.cls ∧ (∀ w ∈ Ts, w.before args s = true) ∧ meth.sig.returnType = ret ∧ meth.locks = false ∧ va_K D cl tys s ∧ N0 ≤ s.heap.size
section RROWS
variable {p : Program} {l : Launch} {e : Env} {R : Room} {s : State} {m : MethodId} {args : Array Value} {below : List Frame} {meth : Method} {c : Code} {H : Heap} {locs : List Loc} {cells slots : Nat} {Q : State → Prop}
variable {cc : ByteArray} {pc nL : Nat} {ret : Option FieldType} {own : String} {Ts : List Cond} {ls : Array Slot} {rest : List Value} {D : va_G} {cl : List vw_C} {a : Nat} {tys : List (ClassId × FieldType)} {N0 : Nat} {M : xM}
theorem r_iald (C : xC p s m args meth c cc nL ret own Ts D cl tys N0) (hM : xW D cl N0 M H) {cA : ClassId} {n : Nat} {f : Nat → Int32} (ha : M a = some (xI cA n f)) (ht : tys[0]? = some (cA, .int)) {i : Nat} (hi : i < n) (hn : n < 2 ^ 31) (hdg : decode cc pc = .ok (.iaload, 1))
    (kk : W p l e R s m args below meth c H locs cells slots Q (F0 m (pc + 1) ls (.int (f i) :: rest))) : W p l e R s m args below meth c H locs cells slots Q (F0 m pc ls (.int (nI i) :: .ref a :: rest)) := by
  obtain ⟨hx, hb, hml, hown, hts, hr, hlocks, hK, hN⟩ := C
  exact x_iald hx hb hK hM 0 ha ht hi hn hdg kk
theorem r_iast (C : xC p s m args meth c cc nL ret own Ts D cl tys N0) (hM : xW D cl N0 M H) (hS : va_S (xA N0) s.heap H locs) {cA : ClassId} {n : Nat} {f : Nat → Int32} (ha : M a = some (xI cA n f)) (ht : tys[0]? = some (cA, .int)) {i : Nat} {x : Int32} (hi : i < n) (hn : n < 2 ^ 31) (hdg : decode cc pc = .ok (.iastore, 1))
    (kk : ∀ (H1 : Heap) (locs1 : List Loc), xW D cl N0 (xset M a (xI cA n (upd f i x))) H1 → va_S (xA N0) s.heap H1 locs1 → W p l e R s m args below meth c H1 locs1 cells slots Q (F0 m (pc + 1) ls rest)) : W p l e R s m args below meth c H locs cells slots Q (F0 m pc ls (.int x :: .int (nI i) :: .ref a :: rest)) := by
  obtain ⟨hx, hb, hml, hown, hts, hr, hlocks, hK, hN⟩ := C
  exact x_iast hx hb hK hM hS 0 ha ht hi hn hdg kk
theorem r_zald (C : xC p s m args meth c cc nL ret own Ts D cl tys N0) (hM : xW D cl N0 M H) {cA : ClassId} {n : Nat} {f : Nat → Int32} (ha : M a = some (xI cA n f)) (ht : tys[1]? = some (cA, .boolean)) {i : Nat} (hi : i < n) (hn : n < 2 ^ 31) (hdg : decode cc pc = .ok (.baload, 1))
    (kk : W p l e R s m args below meth c H locs cells slots Q (F0 m (pc + 1) ls (.int (f i) :: rest))) : W p l e R s m args below meth c H locs cells slots Q (F0 m pc ls (.int (nI i) :: .ref a :: rest)) := by
  obtain ⟨hx, hb, hml, hown, hts, hr, hlocks, hK, hN⟩ := C
  obtain ⟨ws, hP, hD, hm⟩ := hM
  obtain ⟨k, hk⟩ := (hm a _).mp ha
  refine va_zald hx hb hK hP k 1 hk ht (vp_in_nI hi hn) hdg ?_
  rw [nI_clamp (by omega)]
  exact kk
theorem r_zast (C : xC p s m args meth c cc nL ret own Ts D cl tys N0) (hM : xW D cl N0 M H) (hS : va_S (xA N0) s.heap H locs) {cA : ClassId} {n : Nat} {f : Nat → Int32} (ha : M a = some (xI cA n f)) (ht : tys[1]? = some (cA, .boolean)) {i : Nat} {x : Int32} (hi : i < n) (hn : n < 2 ^ 31) (hz : vp_nar .boolean x = x) (hdg : decode cc pc = .ok (.bastore, 1))
    (kk : ∀ (H1 : Heap) (locs1 : List Loc), xW D cl N0 (xset M a (xI cA n (upd f i x))) H1 → va_S (xA N0) s.heap H1 locs1 → W p l e R s m args below meth c H1 locs1 cells slots Q (F0 m (pc + 1) ls rest)) : W p l e R s m args below meth c H locs cells slots Q (F0 m pc ls (.int x :: .int (nI i) :: .ref a :: rest)) := by
  obtain ⟨hx, hb, hml, hown, hts, hr, hlocks, hK, hN⟩ := C
  obtain ⟨ws, hP, hD, hm⟩ := hM
  obtain ⟨k, hk⟩ := (hm a _).mp ha
  refine va_zast hx hb hK hP hD hS k 1 hk ht (vp_in_nI hi hn) hdg (fun H1 locs1 hP1 hD1 hS1 => ?_)
  rw [nI_clamp (by omega), hz] at hP1 hD1
  exact kk H1 locs1 (xW.put hD hm hk hP1 hD1) hS1
theorem r_alen (C : xC p s m args meth c cc nL ret own Ts D cl tys N0) (hM : xW D cl N0 M H) {cA : ClassId} {n : Nat} {f : Nat → Int32} (ha : M a = some (xI cA n f)) (ht : tys[0]? = some (cA, .int)) (hdg : decode cc pc = .ok (.arraylength, 1))
    (kk : W p l e R s m args below meth c H locs cells slots Q (F0 m (pc + 1) ls (.int (nI n) :: rest))) : W p l e R s m args below meth c H locs cells slots Q (F0 m pc ls (.ref a :: rest)) := by
  obtain ⟨hx, hb, hml, hown, hts, hr, hlocks, hK, hN⟩ := C
  exact x_alen hx hb hK hM 0 ha ht hdg kk
/-- a place of an array of references -/
theorem r_aald (C : xC p s m args meth c cc nL ret own Ts D cl tys N0) (hM : xW D cl N0 M H) {cA : ClassId} {n t0 : Nat} {f : Nat → Option Nat} {ty : FieldType} (ha : M a = some (xQ cA n f)) (ht : tys[t0]? = some (cA, ty)) (hty : ty.isReference = true) {i q : Nat} (hi : i < n) (hn : n < 2 ^ 31) (hq : f i = some q) (hdg : decode cc pc = .ok (.aaload, 1))
    (kk : W p l e R s m args below meth c H locs cells slots Q (F0 m (pc + 1) ls (.ref q :: rest))) : W p l e R s m args below meth c H locs cells slots Q (F0 m pc ls (.int (nI i) :: .ref a :: rest)) := by
  obtain ⟨hx, hb, hml, hown, hts, hr, hlocks, hK, hN⟩ := C
  obtain ⟨ws, hP, hD, hm⟩ := hM
  obtain ⟨k, hk⟩ := (hm a _).mp ha
  refine W.aald (v := .ref q) (ty := ty) hx hb (hP k _ hk) ((hK.2 t0 _ ht).1 n (fun j => va_rf (f j))) hty (fun q => by cases q) ?_ ?_ rfl rfl hdg kk
  · show ¬ (nI i < 0 ∨ (arrV _ _ _).slots.size ≤ _)
    rw [arrV_size]
    exact vp_in_nI hi hn
  · show (arrV _ _ _).slots[_]? = _
    rw [nI_clamp (by omega), arrV_read _ _ hi, hq]
    rfl
-- ints by their numbers
theorem r_iaddN (C : xC p s m args meth c cc nL ret own Ts D cl tys N0) {x y : Nat} (hdg : decode cc pc = .ok (.iadd, 1)) (kk : W p l e R s m args below meth c H locs cells slots Q (F0 m (pc + 1) ls (.int (nI (x + y)) :: rest))) : W p l e R s m args below meth c H locs cells slots Q (F0 m pc ls (.int (nI y) :: .int (nI x) :: rest)) := by
  obtain ⟨hx, hb, -⟩ := C
  refine lv_iadd hx hb hdg ?_
  rw [nI_add]
  exact kk
theorem r_isubN (C : xC p s m args meth c cc nL ret own Ts D cl tys N0) {x y : Nat} (h : y ≤ x) (hdg : decode cc pc = .ok (.isub, 1)) (kk : W p l e R s m args below meth c H locs cells slots Q (F0 m (pc + 1) ls (.int (nI (x - y)) :: rest))) : W p l e R s m args below meth c H locs cells slots Q (F0 m pc ls (.int (nI y) :: .int (nI x) :: rest)) := by
  obtain ⟨hx, hb, -⟩ := C
  refine lv_isub hx hb hdg ?_
  rw [pk_sub h]
  exact kk
theorem r_imulN (C : xC p s m args meth c cc nL ret own Ts D cl tys N0) {x y : Nat} (hdg : decode cc pc = .ok (.imul, 1)) (kk : W p l e R s m args below meth c H locs cells slots Q (F0 m (pc + 1) ls (.int (nI (x * y)) :: rest))) : W p l e R s m args below meth c H locs cells slots Q (F0 m pc ls (.int (nI y) :: .int (nI x) :: rest)) := by
  obtain ⟨hx, hb, -⟩ := C
  refine lv_imul hx hb hdg ?_
  rw [pk_mul]
  exact kk
theorem r_topi (C : xC p s m args meth c cc nL ret own Ts D cl tys N0) {x : Int32} (y : Int32) (h : x = y) (kk : W p l e R s m args below meth c H locs cells slots Q (F0 m pc ls (.int y :: rest))) : W p l e R s m args below meth c H locs cells slots Q (F0 m pc ls (.int x :: rest)) := by
  subst h
  exact kk
theorem r_topl (C : xC p s m args meth c cc nL ret own Ts D cl tys N0) {x : Int64} (y : Int64) (h : x = y) (kk : W p l e R s m args below meth c H locs cells slots Q (F0 m pc ls (.long y :: rest))) : W p l e R s m args below meth c H locs cells slots Q (F0 m pc ls (.long x :: rest)) := by
  subst h
  exact kk
theorem r_icmp_geN (C : xC p s m args meth c cc nL ret own Ts D cl tys N0) {x y : Nat} {off : Int} {tgt : Nat} (h1 : x < 2 ^ 31) (h2 : y < 2 ^ 31) (hdg : decode cc pc = .ok (.if_icmp .ge off, 3)) (ht : (pc : Int) + off = (tgt : Int)) (k1 : y ≤ x → W p l e R s m args below meth c H locs cells slots Q (F0 m tgt ls rest)) (k2 : x < y → W p l e R s m args below meth c H locs cells slots Q (F0 m (pc + 3) ls rest)) : W p l e R s m args below meth c H locs cells slots Q (F0 m pc ls (.int (nI y) :: .int (nI x) :: rest)) := by
  obtain ⟨hx, hb, -⟩ := C
  refine lv_icmp_ge hx hb hdg ht (fun h => k1 ((nI_leI h2 h1).mp h)) (fun h => k2 ?_)
  have hh : ¬ (y ≤ x) := fun q => h ((nI_leI h2 h1).mpr q)
  exact by omega
theorem r_icmp_ltN (C : xC p s m args meth c cc nL ret own Ts D cl tys N0) {x y : Nat} {off : Int} {tgt : Nat} (h1 : x < 2 ^ 31) (h2 : y < 2 ^ 31) (hdg : decode cc pc = .ok (.if_icmp .lt off, 3)) (ht : (pc : Int) + off = (tgt : Int)) (k1 : x < y → W p l e R s m args below meth c H locs cells slots Q (F0 m tgt ls rest)) (k2 : y ≤ x → W p l e R s m args below meth c H locs cells slots Q (F0 m (pc + 3) ls rest)) : W p l e R s m args below meth c H locs cells slots Q (F0 m pc ls (.int (nI y) :: .int (nI x) :: rest)) := by
  obtain ⟨hx, hb, -⟩ := C
  refine lv_icmp_lt hx hb hdg ht (fun h => k1 ((nI_ltI h1 h2).mp h)) (fun h => k2 ?_)
  have hh : ¬ (x < y) := fun q => h ((nI_ltI h1 h2).mpr q)
  exact by omega
theorem r_icmp_gtN (C : xC p s m args meth c cc nL ret own Ts D cl tys N0) {x y : Nat} {off : Int} {tgt : Nat} (h1 : x < 2 ^ 31) (h2 : y < 2 ^ 31) (hdg : decode cc pc = .ok (.if_icmp .gt off, 3)) (ht : (pc : Int) + off = (tgt : Int)) (k1 : y < x → W p l e R s m args below meth c H locs cells slots Q (F0 m tgt ls rest)) (k2 : x ≤ y → W p l e R s m args below meth c H locs cells slots Q (F0 m (pc + 3) ls rest)) : W p l e R s m args below meth c H locs cells slots Q (F0 m pc ls (.int (nI y) :: .int (nI x) :: rest)) := by
  obtain ⟨hx, hb, -⟩ := C
  refine lv_icmp_gt hx hb hdg ht (fun h => k1 ((nI_ltI h2 h1).mp h)) (fun h => k2 ?_)
  have hh : ¬ (y < x) := fun q => h ((nI_ltI h2 h1).mpr q)
  exact by omega
theorem r_icmp_leN (C : xC p s m args meth c cc nL ret own Ts D cl tys N0) {x y : Nat} {off : Int} {tgt : Nat} (h1 : x < 2 ^ 31) (h2 : y < 2 ^ 31) (hdg : decode cc pc = .ok (.if_icmp .le off, 3)) (ht : (pc : Int) + off = (tgt : Int)) (k1 : x ≤ y → W p l e R s m args below meth c H locs cells slots Q (F0 m tgt ls rest)) (k2 : y < x → W p l e R s m args below meth c H locs cells slots Q (F0 m (pc + 3) ls rest)) : W p l e R s m args below meth c H locs cells slots Q (F0 m pc ls (.int (nI y) :: .int (nI x) :: rest)) := by
  obtain ⟨hx, hb, -⟩ := C
  refine lv_icmp_le hx hb hdg ht (fun h => k1 ((nI_leI h1 h2).mp h)) (fun h => k2 ?_)
  have hh : ¬ (x ≤ y) := fun q => h ((nI_leI h1 h2).mpr q)
  exact by omega
theorem r_icmp_eqN (C : xC p s m args meth c cc nL ret own Ts D cl tys N0) {x y : Nat} {off : Int} {tgt : Nat} (h1 : x < 2 ^ 31) (h2 : y < 2 ^ 31) (hdg : decode cc pc = .ok (.if_icmp .eq off, 3)) (ht : (pc : Int) + off = (tgt : Int)) (k1 : x = y → W p l e R s m args below meth c H locs cells slots Q (F0 m tgt ls rest)) (k2 : x ≠ y → W p l e R s m args below meth c H locs cells slots Q (F0 m (pc + 3) ls rest)) : W p l e R s m args below meth c H locs cells slots Q (F0 m pc ls (.int (nI y) :: .int (nI x) :: rest)) := by
  obtain ⟨hx, hb, -⟩ := C
  refine lv_icmp_eq hx hb hdg ht (fun h => k1 ((nI_eq h1 h2).mp h)) (fun h => k2 ?_)
  have hh : ¬ (x = y) := fun q => h ((nI_eq h1 h2).mpr q)
  exact hh
theorem r_icmp_neN (C : xC p s m args meth c cc nL ret own Ts D cl tys N0) {x y : Nat} {off : Int} {tgt : Nat} (h1 : x < 2 ^ 31) (h2 : y < 2 ^ 31) (hdg : decode cc pc = .ok (.if_icmp .ne off, 3)) (ht : (pc : Int) + off = (tgt : Int)) (k1 : x ≠ y → W p l e R s m args below meth c H locs cells slots Q (F0 m tgt ls rest)) (k2 : x = y → W p l e R s m args below meth c H locs cells slots Q (F0 m (pc + 3) ls rest)) : W p l e R s m args below meth c H locs cells slots Q (F0 m pc ls (.int (nI y) :: .int (nI x) :: rest)) := by
  obtain ⟨hx, hb, -⟩ := C
  refine lv_icmp_ne hx hb hdg ht (fun h => k1 ((not_congr (nI_eq h1 h2)).mp h)) (fun h => k2 ?_)
  exact (nI_eq h1 h2).mp h

theorem nI_z : (0 : Int32) = nI 0 := nI_0.symm
theorem r_if_geN (C : xC p s m args meth c cc nL ret own Ts D cl tys N0) {x : Nat} {off : Int} {tgt : Nat} (h1 : x < 2 ^ 31) (hdg : decode cc pc = .ok (.ifCond .ge off, 3)) (ht : (pc : Int) + off = (tgt : Int)) (k1 : True → W p l e R s m args below meth c H locs cells slots Q (F0 m tgt ls rest)) (k2 : False → W p l e R s m args below meth c H locs cells slots Q (F0 m (pc + 3) ls rest)) : W p l e R s m args below meth c H locs cells slots Q (F0 m pc ls (.int (nI x) :: rest)) := by
  obtain ⟨hx, hb, -⟩ := C
  have hi := nI_toInt h1
  refine lv_if_ge hx hb hdg ht (fun h => k1 ?_) (fun h => k2 ?_)
  all_goals (first | rw [i_le] at h | rw [i_lt] at h | skip)
  all_goals (try rw [hi] at h)
  all_goals (try rw [Int32.toInt_zero] at h)
  all_goals (first | trivial | omega | (rw [nI_z, nI_eq h1 (by decide)] at h; first | exact h | exact Decidable.not_not.mp h) | (rw [nI_z] at h; have h3 := fun q => h ((nI_eq h1 (by decide)).mpr q); first | exact h3 | exact Decidable.not_not.mp h3))
theorem r_if_ltN (C : xC p s m args meth c cc nL ret own Ts D cl tys N0) {x : Nat} {off : Int} {tgt : Nat} (h1 : x < 2 ^ 31) (hdg : decode cc pc = .ok (.ifCond .lt off, 3)) (ht : (pc : Int) + off = (tgt : Int)) (k1 : False → W p l e R s m args below meth c H locs cells slots Q (F0 m tgt ls rest)) (k2 : True → W p l e R s m args below meth c H locs cells slots Q (F0 m (pc + 3) ls rest)) : W p l e R s m args below meth c H locs cells slots Q (F0 m pc ls (.int (nI x) :: rest)) := by
  obtain ⟨hx, hb, -⟩ := C
  have hi := nI_toInt h1
  refine lv_if_lt hx hb hdg ht (fun h => k1 ?_) (fun h => k2 ?_)
  all_goals (first | rw [i_le] at h | rw [i_lt] at h | skip)
  all_goals (try rw [hi] at h)
  all_goals (try rw [Int32.toInt_zero] at h)
  all_goals (first | trivial | omega | (rw [nI_z, nI_eq h1 (by decide)] at h; first | exact h | exact Decidable.not_not.mp h) | (rw [nI_z] at h; have h3 := fun q => h ((nI_eq h1 (by decide)).mpr q); first | exact h3 | exact Decidable.not_not.mp h3))
theorem r_if_gtN (C : xC p s m args meth c cc nL ret own Ts D cl tys N0) {x : Nat} {off : Int} {tgt : Nat} (h1 : x < 2 ^ 31) (hdg : decode cc pc = .ok (.ifCond .gt off, 3)) (ht : (pc : Int) + off = (tgt : Int)) (k1 : 0 < x → W p l e R s m args below meth c H locs cells slots Q (F0 m tgt ls rest)) (k2 : x = 0 → W p l e R s m args below meth c H locs cells slots Q (F0 m (pc + 3) ls rest)) : W p l e R s m args below meth c H locs cells slots Q (F0 m pc ls (.int (nI x) :: rest)) := by
  obtain ⟨hx, hb, -⟩ := C
  have hi := nI_toInt h1
  refine lv_if_gt hx hb hdg ht (fun h => k1 ?_) (fun h => k2 ?_)
  all_goals (first | rw [i_le] at h | rw [i_lt] at h | skip)
  all_goals (try rw [hi] at h)
  all_goals (try rw [Int32.toInt_zero] at h)
  all_goals (first | trivial | omega | (rw [nI_z, nI_eq h1 (by decide)] at h; first | exact h | exact Decidable.not_not.mp h) | (rw [nI_z] at h; have h3 := fun q => h ((nI_eq h1 (by decide)).mpr q); first | exact h3 | exact Decidable.not_not.mp h3))
theorem r_if_leN (C : xC p s m args meth c cc nL ret own Ts D cl tys N0) {x : Nat} {off : Int} {tgt : Nat} (h1 : x < 2 ^ 31) (hdg : decode cc pc = .ok (.ifCond .le off, 3)) (ht : (pc : Int) + off = (tgt : Int)) (k1 : x = 0 → W p l e R s m args below meth c H locs cells slots Q (F0 m tgt ls rest)) (k2 : 0 < x → W p l e R s m args below meth c H locs cells slots Q (F0 m (pc + 3) ls rest)) : W p l e R s m args below meth c H locs cells slots Q (F0 m pc ls (.int (nI x) :: rest)) := by
  obtain ⟨hx, hb, -⟩ := C
  have hi := nI_toInt h1
  refine lv_if_le hx hb hdg ht (fun h => k1 ?_) (fun h => k2 ?_)
  all_goals (first | rw [i_le] at h | rw [i_lt] at h | skip)
  all_goals (try rw [hi] at h)
  all_goals (try rw [Int32.toInt_zero] at h)
  all_goals (first | trivial | omega | (rw [nI_z, nI_eq h1 (by decide)] at h; first | exact h | exact Decidable.not_not.mp h) | (rw [nI_z] at h; have h3 := fun q => h ((nI_eq h1 (by decide)).mpr q); first | exact h3 | exact Decidable.not_not.mp h3))
theorem r_if_eqN (C : xC p s m args meth c cc nL ret own Ts D cl tys N0) {x : Nat} {off : Int} {tgt : Nat} (h1 : x < 2 ^ 31) (hdg : decode cc pc = .ok (.ifCond .eq off, 3)) (ht : (pc : Int) + off = (tgt : Int)) (k1 : x = 0 → W p l e R s m args below meth c H locs cells slots Q (F0 m tgt ls rest)) (k2 : x ≠ 0 → W p l e R s m args below meth c H locs cells slots Q (F0 m (pc + 3) ls rest)) : W p l e R s m args below meth c H locs cells slots Q (F0 m pc ls (.int (nI x) :: rest)) := by
  obtain ⟨hx, hb, -⟩ := C
  have hi := nI_toInt h1
  refine lv_if_eq hx hb hdg ht (fun h => k1 ?_) (fun h => k2 ?_)
  all_goals (first | rw [i_le] at h | rw [i_lt] at h | skip)
  all_goals (try rw [hi] at h)
  all_goals (try rw [Int32.toInt_zero] at h)
  all_goals (first | trivial | omega | (rw [nI_z, nI_eq h1 (by decide)] at h; first | exact h | exact Decidable.not_not.mp h) | (rw [nI_z] at h; have h3 := fun q => h ((nI_eq h1 (by decide)).mpr q); first | exact h3 | exact Decidable.not_not.mp h3))
theorem r_if_neN (C : xC p s m args meth c cc nL ret own Ts D cl tys N0) {x : Nat} {off : Int} {tgt : Nat} (h1 : x < 2 ^ 31) (hdg : decode cc pc = .ok (.ifCond .ne off, 3)) (ht : (pc : Int) + off = (tgt : Int)) (k1 : x ≠ 0 → W p l e R s m args below meth c H locs cells slots Q (F0 m tgt ls rest)) (k2 : x = 0 → W p l e R s m args below meth c H locs cells slots Q (F0 m (pc + 3) ls rest)) : W p l e R s m args below meth c H locs cells slots Q (F0 m pc ls (.int (nI x) :: rest)) := by
  obtain ⟨hx, hb, -⟩ := C
  have hi := nI_toInt h1
  refine lv_if_ne hx hb hdg ht (fun h => k1 ?_) (fun h => k2 ?_)
  all_goals (first | rw [i_le] at h | rw [i_lt] at h | skip)
  all_goals (try rw [hi] at h)
  all_goals (try rw [Int32.toInt_zero] at h)
  all_goals (first | trivial | omega | (rw [nI_z, nI_eq h1 (by decide)] at h; first | exact h | exact Decidable.not_not.mp h) | (rw [nI_z] at h; have h3 := fun q => h ((nI_eq h1 (by decide)).mpr q); first | exact h3 | exact Decidable.not_not.mp h3))
end RROWS

section RCALLS
variable {p : Program} {l : Launch} {e : Env} {R : Room} {s : State} {m : MethodId} {args : Array Value} {below : List Frame} {meth : Method} {c : Code} {H : Heap} {locs : List Loc} {cells slots : Nat} {Q : State → Prop}
variable {cc : ByteArray} {pc nL : Nat} {ret : Option FieldType} {own : String} {Ts : List Cond} {ls : Array Slot} {rest : List Value} {D : va_G} {cl : List vw_C} {tys : List (ClassId × FieldType)} {N0 : Nat} {M : xM}
variable {y : MethodName} {bytes : ByteArray} {maxL mc ms index : Nat} {rt : Option FieldType} {ws ws' : List Cond} {rm : Room} {As st0 : List Value} {b : Nat}
theorem r_Si {post : Int32 → xM → Prop} (C : xC p s m args meth c cc nL ret own Ts D cl tys N0) (hM : xW D cl N0 M H) (hS : va_S (xA N0) s.heap H locs) (hC : Met l y ws rm (va_Pc As (xB D cl tys N0 M)) (va_Qi post (xB D cl tys N0) (xA N0)) mc ms (xA N0)) (hT : GoodIn Ts (va_wsS own index y ws)) (hw : ws = Cond.code y bytes maxL rt :: ws') (hrc : rm.cells = mc) (hrs : rm.slots = ms) (hd : y.cls ≠ "java/lang/invoke/MethodHandle" ∧ y.cls ≠ "java/lang/invoke/VarHandle" ∧ (parseMethodDescriptor y.desc).map (fun d => d.parameters.length) = some As.length) (hR : rm.frames + 1 ≤ R.frames ∧ 8 + (maxL + 11) + rm.locals ≤ R.locals) (hl : ls.size = nL) (hst : st0 = As.reverse ++ rest) (hrest : (rest.map fun v => v.category).sum ≤ 8) (hdg : decode cc pc = .ok (.invokestatic index, 3)) (hf : cells + mc ≤ R.cells ∧ slots + ms ≤ R.slots)
    (kk : ∀ (r : Int32) (M1 : xM) (H1 : Heap) (locs1 : List Loc), post r M1 → xW D cl N0 M1 H1 → va_S (xA N0) s.heap H1 locs1 → W p l e R s m args below meth c H1 locs1 (cells + mc) (slots + ms) Q (F0 m (pc + 3) ls (.int r :: rest))) : W p l e R s m args below meth c H locs cells slots Q (F0 m pc ls st0) := by
  obtain ⟨hx, hb, hml, hown, hts, hr, hlocks, hK, hN⟩ := C
  exact x_calli (va_runS ⟨hx, hb, hml, hown, hts⟩ hC (va_cwS As.length hts hT hw hrc hrs hd hR) (x_pre hK hM hN hS) rfl rfl hl hst (lv_room hrest) hdg hf) hS kk
theorem r_Sl {post : Int64 → xM → Prop} (C : xC p s m args meth c cc nL ret own Ts D cl tys N0) (hM : xW D cl N0 M H) (hS : va_S (xA N0) s.heap H locs) (hC : Met l y ws rm (va_Pc As (xB D cl tys N0 M)) (va_Ql post (xB D cl tys N0) (xA N0)) mc ms (xA N0)) (hT : GoodIn Ts (va_wsS own index y ws)) (hw : ws = Cond.code y bytes maxL rt :: ws') (hrc : rm.cells = mc) (hrs : rm.slots = ms) (hd : y.cls ≠ "java/lang/invoke/MethodHandle" ∧ y.cls ≠ "java/lang/invoke/VarHandle" ∧ (parseMethodDescriptor y.desc).map (fun d => d.parameters.length) = some As.length) (hR : rm.frames + 1 ≤ R.frames ∧ 8 + (maxL + 11) + rm.locals ≤ R.locals) (hl : ls.size = nL) (hst : st0 = As.reverse ++ rest) (hrest : (rest.map fun v => v.category).sum ≤ 8) (hdg : decode cc pc = .ok (.invokestatic index, 3)) (hf : cells + mc ≤ R.cells ∧ slots + ms ≤ R.slots)
    (kk : ∀ (r : Int64) (M1 : xM) (H1 : Heap) (locs1 : List Loc), post r M1 → xW D cl N0 M1 H1 → va_S (xA N0) s.heap H1 locs1 → W p l e R s m args below meth c H1 locs1 (cells + mc) (slots + ms) Q (F0 m (pc + 3) ls (.long r :: rest))) : W p l e R s m args below meth c H locs cells slots Q (F0 m pc ls st0) := by
  obtain ⟨hx, hb, hml, hown, hts, hr, hlocks, hK, hN⟩ := C
  exact x_calll (va_runS ⟨hx, hb, hml, hown, hts⟩ hC (va_cwS As.length hts hT hw hrc hrs hd hR) (x_pre hK hM hN hS) rfl rfl hl hst (lv_room hrest) hdg hf) hS kk
theorem r_Sv {post : xM → Prop} (C : xC p s m args meth c cc nL ret own Ts D cl tys N0) (hM : xW D cl N0 M H) (hS : va_S (xA N0) s.heap H locs) (hC : Met l y ws rm (va_Pc As (xB D cl tys N0 M)) (va_Qv post (xB D cl tys N0) (xA N0)) mc ms (xA N0)) (hT : GoodIn Ts (va_wsS own index y ws)) (hw : ws = Cond.code y bytes maxL rt :: ws') (hrc : rm.cells = mc) (hrs : rm.slots = ms) (hd : y.cls ≠ "java/lang/invoke/MethodHandle" ∧ y.cls ≠ "java/lang/invoke/VarHandle" ∧ (parseMethodDescriptor y.desc).map (fun d => d.parameters.length) = some As.length) (hR : rm.frames + 1 ≤ R.frames ∧ 8 + (maxL + 11) + rm.locals ≤ R.locals) (hl : ls.size = nL) (hst : st0 = As.reverse ++ rest) (hrest : (rest.map fun v => v.category).sum ≤ 8) (hdg : decode cc pc = .ok (.invokestatic index, 3)) (hf : cells + mc ≤ R.cells ∧ slots + ms ≤ R.slots)
    (kk : ∀ (M1 : xM) (H1 : Heap) (locs1 : List Loc), post M1 → xW D cl N0 M1 H1 → va_S (xA N0) s.heap H1 locs1 → W p l e R s m args below meth c H1 locs1 (cells + mc) (slots + ms) Q (F0 m (pc + 3) ls (rest))) : W p l e R s m args below meth c H locs cells slots Q (F0 m pc ls st0) := by
  obtain ⟨hx, hb, hml, hown, hts, hr, hlocks, hK, hN⟩ := C
  exact x_callv (va_runS ⟨hx, hb, hml, hown, hts⟩ hC (va_cwS As.length hts hT hw hrc hrs hd hR) (x_pre hK hM hN hS) rfl rfl hl hst (lv_room hrest) hdg hf) hS kk
theorem r_Sr {post : xM × Nat → Prop} (C : xC p s m args meth c cc nL ret own Ts D cl tys N0) (hM : xW D cl N0 M H) (hS : va_S (xA N0) s.heap H locs) (hC : Met l y ws rm (va_Pc As (xB D cl tys N0 M)) (va_Qr (S := xM) (fun _ => True) (fun M1 ra t => post (M1, ra) ∧ xB D cl tys N0 M1 t) (xA N0)) mc ms (xA N0)) (hT : GoodIn Ts (va_wsS own index y ws)) (hw : ws = Cond.code y bytes maxL rt :: ws') (hrc : rm.cells = mc) (hrs : rm.slots = ms) (hd : y.cls ≠ "java/lang/invoke/MethodHandle" ∧ y.cls ≠ "java/lang/invoke/VarHandle" ∧ (parseMethodDescriptor y.desc).map (fun d => d.parameters.length) = some As.length) (hR : rm.frames + 1 ≤ R.frames ∧ 8 + (maxL + 11) + rm.locals ≤ R.locals) (hl : ls.size = nL) (hst : st0 = As.reverse ++ rest) (hrest : (rest.map fun v => v.category).sum ≤ 8) (hdg : decode cc pc = .ok (.invokestatic index, 3)) (hf : cells + mc ≤ R.cells ∧ slots + ms ≤ R.slots)
    (kk : ∀ (ra : Nat) (M1 : xM) (H1 : Heap) (locs1 : List Loc), post (M1, ra) → xW D cl N0 M1 H1 → va_S (xA N0) s.heap H1 locs1 → W p l e R s m args below meth c H1 locs1 (cells + mc) (slots + ms) Q (F0 m (pc + 3) ls (.ref ra :: rest))) : W p l e R s m args below meth c H locs cells slots Q (F0 m pc ls st0) := by
  obtain ⟨hx, hb, hml, hown, hts, hr, hlocks, hK, hN⟩ := C
  exact x_callr (va_runS ⟨hx, hb, hml, hown, hts⟩ hC (va_cwS As.length hts hT hw hrc hrs hd hR) (x_pre hK hM hN hS) rfl rfl hl hst (lv_room hrest) hdg hf) hS kk
theorem r_Vi {post : Int32 → xM → Prop} (C : xC p s m args meth c cc nL ret own Ts D cl tys N0) (hM : xW D cl N0 M H) (hS : va_S (xA N0) s.heap H locs) (hC : Met l y ws rm (va_Pc (.ref b :: As) (xB D cl tys N0 M)) (va_Qi post (xB D cl tys N0) (xA N0)) mc ms (xA N0)) {ci : Nat} {fs : List Value} {q : vw_C} (he : M b = some (xO ci fs)) (hc : cl[ci]? = some q) (hT : GoodIn Ts (wsV own index q.1 y ws)) (hw : ws = Cond.code y bytes maxL rt :: ws') (hrc : rm.cells = mc) (hrs : rm.slots = ms) (hd : y.cls = q.1 ∧ y.cls ≠ "java/lang/invoke/MethodHandle" ∧ y.cls ≠ "java/lang/invoke/VarHandle" ∧ (parseMethodDescriptor y.desc).map (fun d => d.parameters.length) = some As.length) (hR : rm.frames + 1 ≤ R.frames ∧ 8 + (maxL + 11) + rm.locals ≤ R.locals) (hl : ls.size = nL) (hst : st0 = As.reverse ++ .ref b :: rest) (hrest : (rest.map fun v => v.category).sum ≤ 8) (hdg : decode cc pc = .ok (.invokevirtual index, 3)) (hf : cells + mc ≤ R.cells ∧ slots + ms ≤ R.slots)
    (kk : ∀ (r : Int32) (M1 : xM) (H1 : Heap) (locs1 : List Loc), post r M1 → xW D cl N0 M1 H1 → va_S (xA N0) s.heap H1 locs1 → W p l e R s m args below meth c H1 locs1 (cells + mc) (slots + ms) Q (F0 m (pc + 3) ls (.int r :: rest))) : W p l e R s m args below meth c H locs cells slots Q (F0 m pc ls st0) := by
  obtain ⟨hx, hb, hml, hown, hts, hr, hlocks, hK, hN⟩ := C
  exact x_calli (va_runV ⟨hx, hb, hml, hown, hts⟩ hC (cwV As.length hts hT hw hrc hrs hd hR) (x_preV hK hM hN hS he hc) rfl rfl hl hst (lv_room hrest) hdg hf) hS kk
theorem r_Vl {post : Int64 → xM → Prop} (C : xC p s m args meth c cc nL ret own Ts D cl tys N0) (hM : xW D cl N0 M H) (hS : va_S (xA N0) s.heap H locs) (hC : Met l y ws rm (va_Pc (.ref b :: As) (xB D cl tys N0 M)) (va_Ql post (xB D cl tys N0) (xA N0)) mc ms (xA N0)) {ci : Nat} {fs : List Value} {q : vw_C} (he : M b = some (xO ci fs)) (hc : cl[ci]? = some q) (hT : GoodIn Ts (wsV own index q.1 y ws)) (hw : ws = Cond.code y bytes maxL rt :: ws') (hrc : rm.cells = mc) (hrs : rm.slots = ms) (hd : y.cls = q.1 ∧ y.cls ≠ "java/lang/invoke/MethodHandle" ∧ y.cls ≠ "java/lang/invoke/VarHandle" ∧ (parseMethodDescriptor y.desc).map (fun d => d.parameters.length) = some As.length) (hR : rm.frames + 1 ≤ R.frames ∧ 8 + (maxL + 11) + rm.locals ≤ R.locals) (hl : ls.size = nL) (hst : st0 = As.reverse ++ .ref b :: rest) (hrest : (rest.map fun v => v.category).sum ≤ 8) (hdg : decode cc pc = .ok (.invokevirtual index, 3)) (hf : cells + mc ≤ R.cells ∧ slots + ms ≤ R.slots)
    (kk : ∀ (r : Int64) (M1 : xM) (H1 : Heap) (locs1 : List Loc), post r M1 → xW D cl N0 M1 H1 → va_S (xA N0) s.heap H1 locs1 → W p l e R s m args below meth c H1 locs1 (cells + mc) (slots + ms) Q (F0 m (pc + 3) ls (.long r :: rest))) : W p l e R s m args below meth c H locs cells slots Q (F0 m pc ls st0) := by
  obtain ⟨hx, hb, hml, hown, hts, hr, hlocks, hK, hN⟩ := C
  exact x_calll (va_runV ⟨hx, hb, hml, hown, hts⟩ hC (cwV As.length hts hT hw hrc hrs hd hR) (x_preV hK hM hN hS he hc) rfl rfl hl hst (lv_room hrest) hdg hf) hS kk
theorem r_Vv {post : xM → Prop} (C : xC p s m args meth c cc nL ret own Ts D cl tys N0) (hM : xW D cl N0 M H) (hS : va_S (xA N0) s.heap H locs) (hC : Met l y ws rm (va_Pc (.ref b :: As) (xB D cl tys N0 M)) (va_Qv post (xB D cl tys N0) (xA N0)) mc ms (xA N0)) {ci : Nat} {fs : List Value} {q : vw_C} (he : M b = some (xO ci fs)) (hc : cl[ci]? = some q) (hT : GoodIn Ts (wsV own index q.1 y ws)) (hw : ws = Cond.code y bytes maxL rt :: ws') (hrc : rm.cells = mc) (hrs : rm.slots = ms) (hd : y.cls = q.1 ∧ y.cls ≠ "java/lang/invoke/MethodHandle" ∧ y.cls ≠ "java/lang/invoke/VarHandle" ∧ (parseMethodDescriptor y.desc).map (fun d => d.parameters.length) = some As.length) (hR : rm.frames + 1 ≤ R.frames ∧ 8 + (maxL + 11) + rm.locals ≤ R.locals) (hl : ls.size = nL) (hst : st0 = As.reverse ++ .ref b :: rest) (hrest : (rest.map fun v => v.category).sum ≤ 8) (hdg : decode cc pc = .ok (.invokevirtual index, 3)) (hf : cells + mc ≤ R.cells ∧ slots + ms ≤ R.slots)
    (kk : ∀ (M1 : xM) (H1 : Heap) (locs1 : List Loc), post M1 → xW D cl N0 M1 H1 → va_S (xA N0) s.heap H1 locs1 → W p l e R s m args below meth c H1 locs1 (cells + mc) (slots + ms) Q (F0 m (pc + 3) ls (rest))) : W p l e R s m args below meth c H locs cells slots Q (F0 m pc ls st0) := by
  obtain ⟨hx, hb, hml, hown, hts, hr, hlocks, hK, hN⟩ := C
  exact x_callv (va_runV ⟨hx, hb, hml, hown, hts⟩ hC (cwV As.length hts hT hw hrc hrs hd hR) (x_preV hK hM hN hS he hc) rfl rfl hl hst (lv_room hrest) hdg hf) hS kk
theorem r_Vr {post : xM × Nat → Prop} (C : xC p s m args meth c cc nL ret own Ts D cl tys N0) (hM : xW D cl N0 M H) (hS : va_S (xA N0) s.heap H locs) (hC : Met l y ws rm (va_Pc (.ref b :: As) (xB D cl tys N0 M)) (va_Qr (S := xM) (fun _ => True) (fun M1 ra t => post (M1, ra) ∧ xB D cl tys N0 M1 t) (xA N0)) mc ms (xA N0)) {ci : Nat} {fs : List Value} {q : vw_C} (he : M b = some (xO ci fs)) (hc : cl[ci]? = some q) (hT : GoodIn Ts (wsV own index q.1 y ws)) (hw : ws = Cond.code y bytes maxL rt :: ws') (hrc : rm.cells = mc) (hrs : rm.slots = ms) (hd : y.cls = q.1 ∧ y.cls ≠ "java/lang/invoke/MethodHandle" ∧ y.cls ≠ "java/lang/invoke/VarHandle" ∧ (parseMethodDescriptor y.desc).map (fun d => d.parameters.length) = some As.length) (hR : rm.frames + 1 ≤ R.frames ∧ 8 + (maxL + 11) + rm.locals ≤ R.locals) (hl : ls.size = nL) (hst : st0 = As.reverse ++ .ref b :: rest) (hrest : (rest.map fun v => v.category).sum ≤ 8) (hdg : decode cc pc = .ok (.invokevirtual index, 3)) (hf : cells + mc ≤ R.cells ∧ slots + ms ≤ R.slots)
    (kk : ∀ (ra : Nat) (M1 : xM) (H1 : Heap) (locs1 : List Loc), post (M1, ra) → xW D cl N0 M1 H1 → va_S (xA N0) s.heap H1 locs1 → W p l e R s m args below meth c H1 locs1 (cells + mc) (slots + ms) Q (F0 m (pc + 3) ls (.ref ra :: rest))) : W p l e R s m args below meth c H locs cells slots Q (F0 m pc ls st0) := by
  obtain ⟨hx, hb, hml, hown, hts, hr, hlocks, hK, hN⟩ := C
  exact x_callr (va_runV ⟨hx, hb, hml, hown, hts⟩ hC (cwV As.length hts hT hw hrc hrs hd hR) (x_preV hK hM hN hS he hc) rfl rfl hl hst (lv_room hrest) hdg hf) hS kk
theorem r_Iv {post : xM → Prop} (C : xC p s m args meth c cc nL ret own Ts D cl tys N0) (hM : xW D cl N0 M H) (hS : va_S (xA N0) s.heap H locs) (hC : Met l y ws rm (va_Pc (.ref b :: As) (xB D cl tys N0 M)) (va_Qv post (xB D cl tys N0) (xA N0)) mc ms (xA N0)) (hT : GoodIn Ts ws) (hini : (Cond.initialized y.cls).before args s = true) (hlk : (Cond.methodLink own index y).before args s = true) (hin : (Cond.instanceMethod y).before args s = true) (hy1 : y.name = "<init>") (hw : ws = Cond.code y bytes maxL none :: ws') (hrc : rm.cells = mc) (hrs : rm.slots = ms) (hd : y.cls ≠ "java/lang/invoke/MethodHandle" ∧ y.cls ≠ "java/lang/invoke/VarHandle" ∧ (parseMethodDescriptor y.desc).map (fun d => d.parameters.length) = some As.length) (hR : rm.frames + 1 ≤ R.frames ∧ 8 + (maxL + 11) + rm.locals ≤ R.locals) (hl : ls.size = nL) (hst : st0 = As.reverse ++ .ref b :: rest) (hrest : (rest.map fun v => v.category).sum ≤ 8) (hdg : decode cc pc = .ok (.invokespecial index, 3)) (hf : cells + mc ≤ R.cells ∧ slots + ms ≤ R.slots)
    (kk : ∀ (M1 : xM) (H1 : Heap) (locs1 : List Loc), post M1 → xW D cl N0 M1 H1 → va_S (xA N0) s.heap H1 locs1 → W p l e R s m args below meth c H1 locs1 (cells + mc) (slots + ms) Q (F0 m (pc + 3) ls (rest))) : W p l e R s m args below meth c H locs cells slots Q (F0 m pc ls st0) := by
  obtain ⟨hx, hb, hml, hown, hts, hr, hlocks, hK, hN⟩ := C
  exact x_callv (va_runI ⟨hx, hb, hml, hown, hts⟩ hC (cwI As.length hts hT hw hrc hrs hini hlk hin hy1 hd hR) (x_pre hK hM hN hS) rfl rfl hl hst (lv_room hrest) hdg hf) hS kk
end RCALLS
