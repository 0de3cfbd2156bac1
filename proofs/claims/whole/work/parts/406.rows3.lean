-- A METHOD'S BEGINNING, with its end as a hypothesis
section RM3
variable {l : Launch} {y : MethodName} {ws ws' : List Cond} {rm : Room} {cc : ByteArray} {maxL : Nat} {av : List Value} {D : va_G} {kA : Nat → ClassId} {N0 : Nat} {M : xM}
theorem r_mV {post : xM → Prop} (hy : plainName y.cls = true) (hw : ws = Cond.code y cc maxL none :: ws') (hav : (lg_sl av).length ≤ maxL)
    (body : ∀ (p : Program) (e : Env) (s : State) (m : MethodId) (below : List Frame) (meth : Method) (c : Code) (ls : Array Slot) (A0 : Array Value) (Qp : State → Prop), xC p s m A0 meth c cc maxL none y.cls ws D vwCl (xT kA) N0 → xW D vwCl N0 M s.heap → meth.name = y.name → lv_has ls maxL (lv_args 0 av) → (∀ (M1 : xM) (H : Heap) (locs : List Loc) (ls : Array Slot) (pc : Nat), xW D vwCl N0 M1 H → va_S (xA N0) s.heap H locs → post M1 → decode cc pc = .ok (.return_, 1) → W p l e rm s m A0 below meth c H locs 0 0 Qp (F0 m pc ls [])) →
      W p l e rm s m A0 below meth c s.heap [] 0 0 Qp (F0 m 0 ls [])) : cV l y ws rm av D kA N0 M post := by
  refine r_met (cc := cc) (maxL := maxL) (ret := none) hy hw hav ?_
  intro p e s m below meth c ls C hM hnm hl
  exact body p e s m below meth c ls _ _ C hM hnm hl (fun M1 H locs ls pc h1 h2 h3 h4 => r_vret C h1 h2 h3 h4)
theorem r_mI {post : Int32 → xM → Prop} (hy : plainName y.cls = true) (hw : ws = Cond.code y cc maxL (some .int) :: ws') (hav : (lg_sl av).length ≤ maxL)
    (body : ∀ (p : Program) (e : Env) (s : State) (m : MethodId) (below : List Frame) (meth : Method) (c : Code) (ls : Array Slot) (A0 : Array Value) (Qp : State → Prop), xC p s m A0 meth c cc maxL (some .int) y.cls ws D vwCl (xT kA) N0 → xW D vwCl N0 M s.heap → meth.name = y.name → lv_has ls maxL (lv_args 0 av) → (∀ (v : Int32) (M1 : xM) (H : Heap) (locs : List Loc) (ls : Array Slot) (pc : Nat), xW D vwCl N0 M1 H → va_S (xA N0) s.heap H locs → post v M1 → decode cc pc = .ok (.ireturn, 1) → W p l e rm s m A0 below meth c H locs 0 0 Qp (F0 m pc ls [.int v])) →
      W p l e rm s m A0 below meth c s.heap [] 0 0 Qp (F0 m 0 ls [])) : cI l y ws rm av D kA N0 M post := by
  refine r_met (cc := cc) (maxL := maxL) (ret := some .int) hy hw hav ?_
  intro p e s m below meth c ls C hM hnm hl
  exact body p e s m below meth c ls _ _ C hM hnm hl (fun v M1 H locs ls pc h1 h2 h3 h4 => r_iret C h1 h2 h3 h4)
theorem r_mZ {post : Int32 → xM → Prop} (hy : plainName y.cls = true) (hw : ws = Cond.code y cc maxL (some .boolean) :: ws') (hav : (lg_sl av).length ≤ maxL)
    (body : ∀ (p : Program) (e : Env) (s : State) (m : MethodId) (below : List Frame) (meth : Method) (c : Code) (ls : Array Slot) (A0 : Array Value) (Qp : State → Prop), xC p s m A0 meth c cc maxL (some .boolean) y.cls ws D vwCl (xT kA) N0 → xW D vwCl N0 M s.heap → meth.name = y.name → lv_has ls maxL (lv_args 0 av) → (∀ (v : Int32) (M1 : xM) (H : Heap) (locs : List Loc) (ls : Array Slot) (pc : Nat), xW D vwCl N0 M1 H → va_S (xA N0) s.heap H locs → (v = 0 ∨ v = 1) → post v M1 → decode cc pc = .ok (.ireturn, 1) → W p l e rm s m A0 below meth c H locs 0 0 Qp (F0 m pc ls [.int v])) →
      W p l e rm s m A0 below meth c s.heap [] 0 0 Qp (F0 m 0 ls [])) : cI l y ws rm av D kA N0 M post := by
  refine r_met (cc := cc) (maxL := maxL) (ret := some .boolean) hy hw hav ?_
  intro p e s m below meth c ls C hM hnm hl
  exact body p e s m below meth c ls _ _ C hM hnm hl (fun v M1 H locs ls pc h1 h2 h3 h4 h5 => r_zret C h1 h2 (by rcases h3 with q | q <;> rw [q] <;> rfl) h4 h5)
theorem r_mL {post : Int64 → xM → Prop} (hy : plainName y.cls = true) (hw : ws = Cond.code y cc maxL (some .long) :: ws') (hav : (lg_sl av).length ≤ maxL)
    (body : ∀ (p : Program) (e : Env) (s : State) (m : MethodId) (below : List Frame) (meth : Method) (c : Code) (ls : Array Slot) (A0 : Array Value) (Qp : State → Prop), xC p s m A0 meth c cc maxL (some .long) y.cls ws D vwCl (xT kA) N0 → xW D vwCl N0 M s.heap → meth.name = y.name → lv_has ls maxL (lv_args 0 av) → (∀ (v : Int64) (M1 : xM) (H : Heap) (locs : List Loc) (ls : Array Slot) (pc : Nat), xW D vwCl N0 M1 H → va_S (xA N0) s.heap H locs → post v M1 → decode cc pc = .ok (.lreturn, 1) → W p l e rm s m A0 below meth c H locs 0 0 Qp (F0 m pc ls [.long v])) →
      W p l e rm s m A0 below meth c s.heap [] 0 0 Qp (F0 m 0 ls [])) : cJ l y ws rm av D kA N0 M post := by
  refine r_met (cc := cc) (maxL := maxL) (ret := some .long) hy hw hav ?_
  intro p e s m below meth c ls C hM hnm hl
  exact body p e s m below meth c ls _ _ C hM hnm hl (fun v M1 H locs ls pc h1 h2 h3 h4 => r_lret C h1 h2 h3 h4)
end RM3
-- THE MODEL AT g: slots, pairs, numbers, nothings, u, v, q behind it
abbrev oMd (g : Nat) (B : Int32 × Int32 × Int32 × Int32) (us : Int32) : va_E := xO 5 [.int B.1, .ref (g + 1), .ref (g + 2), .int B.2.1, .int B.2.2.1, .int B.2.2.2, .ref (g + 3), .ref (g + 4), .ref (g + 5), .ref (g + 6), .ref (g + 7), .int us]
/-- thirty numbers of ten limbs -/
def Nf (F : Nat → Int32) (N : Nat → Nat) : Prop := nn F 300 ∧ ∀ n, n < 30 → Vw F (10 * n) 10 = N n
def MN (kA : Nat → ClassId) (M0 M : xM) (g : Nat) (B : Int32 × Int32 × Int32 × Int32) (N : Nat → Nat) : Prop := (∃ us, M g = some (oMd g B us)) ∧ (∃ F, M (g + 3) = some (xI (kA 0) 300 F) ∧ Nf F N) ∧ isA kA M (g + 5) 24 ∧ isA kA M (g + 6) 12 ∧ isA kA M (g + 7) 24 ∧ (∀ b, b ≠ g → b ≠ g + 3 → b ≠ g + 5 → b ≠ g + 6 → b ≠ g + 7 → M b = M0 b)
theorem MN.op {kA : Nat → ClassId} {M0 M : xM} {g : Nat} {B : Int32 × Int32 × Int32 × Int32} {N : Nat → Nat} (h : MN kA M0 M g B N) : ∃ us F, M g = some (oMd g B us) ∧ M (g + 3) = some (xI (kA 0) 300 F) ∧ Nf F N ∧ ∀ F' N', Nf F' N' → MN kA M0 (xset M (g + 3) (xI (kA 0) 300 F')) g B N' := by
  obtain ⟨⟨us, h1⟩, ⟨F, h2, h3⟩, h4, h5, h6, h7⟩ := h
  refine ⟨us, F, h1, h2, h3, fun F' N' hn => ⟨⟨us, ?_⟩, ⟨F', xset_s, hn⟩, h4.kept (xset_n (by omega)), h5.kept (xset_n (by omega)), h6.kept (xset_n (by omega)), fun b b1 b2 b3 b4 b5 => ?_⟩⟩
  · rw [xset_n (by omega)]; exact h1
  · rw [xset_n b2]; exact h7 b b1 b2 b3 b4 b5
theorem MN.lt {kA : Nat → ClassId} {M0 M : xM} {g : Nat} {B : Int32 × Int32 × Int32 × Int32} {N : Nat → Nat} (h : MN kA M0 M g B N) {n : Nat} (hn : n < 30) : N n < BB ^ 10 := by
  obtain ⟨-, ⟨F, -, h2⟩, -⟩ := h
  rw [← h2.2 n hn]
  exact Vw_lt F _ 10
theorem Vw_updA {F : Nat → Int32} {a i : Nat} {x : Int32} : Vw (upd F (a + i) x) a (i + 1) = Vw F a i + dg x * BB ^ i := by
  rw [Vw_s, pk_us, Vw_congr (fun j hj => pk_un (by omega))]
/-- digits of the number 'to' are written from the lowest on -/
def Lp (E0 F : Nat → Int32) (to i v : Nat) : Prop := (∀ j, j < 10 * to ∨ 10 * to + i ≤ j → F j = E0 j) ∧ (∀ j, j < i → 0 ≤ (F (10 * to + j)).toInt) ∧ Vw F (10 * to) i = v
theorem Lp.ini (E0 : Nat → Int32) (to : Nat) : Lp E0 E0 to 0 0 := ⟨fun _ _ => rfl, fun j hj => by omega, rfl⟩
theorem Lp.s {E0 F : Nat → Int32} {to i v w : Nat} {x : Int32} (h : Lp E0 F to i v) (hx : 0 ≤ x.toInt) (hw : v + dg x * BB ^ i = w) : Lp E0 (upd F (10 * to + i) x) to (i + 1) w := by
  refine ⟨fun j hj => ?_, fun j hj => ?_, ?_⟩
  · rw [pk_un (by omega)]; exact h.1 j (by omega)
  · by_cases e : j = i
    · rw [e, pk_us]; exact hx
    · rw [pk_un (by omega)]; exact h.2.1 j (by omega)
  · rw [Vw_updA, h.2.2]; exact hw
theorem Lp.rd {E0 F : Nat → Int32} {to i v : Nat} (h : Lp E0 F to i v) {n j : Nat} (h1 : i ≤ j) (h2 : j < 10) : F (10 * n + j) = E0 (10 * n + j) := h.1 _ (by omega)
theorem Lp.fin {E0 F : Nat → Int32} {to v : Nat} {N : Nat → Nat} (h : Lp E0 F to 10 v) (hn : Nf E0 N) (hto : to < 30) : Nf F (un N to v) := by
  refine ⟨fun j hj => ?_, fun n hn9 => ?_⟩
  · by_cases e : j < 10 * to ∨ 10 * to + 10 ≤ j
    · rw [h.1 j e]; exact hn.1 j hj
    · have := h.2.1 (j - 10 * to) (by omega)
      rw [show 10 * to + (j - 10 * to) = j by omega] at this
      exact this
  · by_cases e : n = to
    · rw [e, un_s]; exact h.2.2
    · rw [un_n e, Vw_congr (g := E0) (fun j hj => h.1 _ (by omega))]
      exact hn.2 n hn9
theorem Nf.nn9 {F : Nat → Int32} {N : Nat → Nat} (h : Nf F N) {n i : Nat} (hn : n < 30) (hi : i < 10) : 0 ≤ (F (10 * n + i)).toInt := h.1 _ (by omega)
theorem Nf.dg9 {F : Nat → Int32} {N : Nat → Nat} (h : Nf F N) {n i : Nat} (hn : n < 30) (hi : i < 10) : F (10 * n + i) = nI (dg (F (10 * n + i))) := nI_dg (h.nn9 hn hi)
