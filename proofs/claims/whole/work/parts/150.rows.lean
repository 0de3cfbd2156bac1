-- A METHOD'S BEGINNING AND ENDS OVER THE MAP
abbrev xR (d : Nat) : Room := { frames := d, cells := 0, slots := 0, locals := 40 * d }
theorem r_met {l : Launch} {y : MethodName} {ws ws' : List Cond} {rm : Room} {Qc : Array Value → State → Outcome → State → Prop} {mc ms : Nat} {cc : ByteArray} {maxL : Nat} {ret : Option FieldType} {av : List Value} {D : va_G} {cl : List vw_C} {tys : List (ClassId × FieldType)} {N0 : Nat} {M : xM}
    (hy : plainName y.cls = true) (hw : ws = Cond.code y cc maxL ret :: ws') (hav : (lg_sl av).length ≤ maxL)
    (body : ∀ (p : Program) (e : Env) (s : State) (m : MethodId) (below : List Frame) (meth : Method) (c : Code) (ls : Array Slot), xC p s m av.toArray meth c cc maxL ret y.cls ws D cl tys N0 → xW D cl N0 M s.heap → meth.name = y.name → lv_has ls maxL (lv_args 0 av) →
      W p l e rm s m av.toArray below meth c s.heap [] 0 0 (MQ below Qc av.toArray s mc ms (xA N0)) (F0 m 0 ls [])) : Met l y ws rm (va_Pc av (xB D cl tys N0 M)) Qc mc ms (xA N0) := by
  refine Met.ofW (cc := cc) (maxL := maxL) (ret := ret) hy hw ?_
  intro p e s m args below meth c s₁ B hml hv
  obtain ⟨rfl, hN, hM, hK⟩ := hv
  have hl := lv_entry av (n := maxL) hav
  rw [lg_entry_eq]
  exact body p e s m below meth c _ ⟨B.exec, B.bytes, hml, findClass_of_methodNamed B.named, atoms_spec (ws := ws) B.pre, B.returns, B.notSynchronized, hK, hN⟩ hM (name_of_methodNamed B.named B.method).1 hl
section RRET
variable {p : Program} {l : Launch} {e : Env} {R : Room} {s : State} {m : MethodId} {args : Array Value} {below : List Frame} {meth : Method} {c : Code} {H : Heap} {locs : List Loc} {cells slots : Nat}
variable {cc : ByteArray} {pc nL : Nat} {own : String} {Ts : List Cond} {ls : Array Slot} {D : va_G} {cl : List vw_C} {tys : List (ClassId × FieldType)} {N0 : Nat} {M : xM}
theorem xB_end {ret : Option FieldType} (C : xC p s m args meth c cc nL ret own Ts D cl tys N0) (hM : xW D cl N0 M H) (hS : va_S (xA N0) s.heap H locs) {t : State} (ht : t.heap = H) (hW : s.WarmedH t.vm) : xB D cl tys N0 M t := by
  obtain ⟨hx, hb, hml, hown, hts, hr, hlocks, hK, hN⟩ := C
  exact ⟨by rw [ht]; exact Nat.le_trans hN hS.1, by rw [ht]; exact hM, va_K.moved hW.alike hK⟩
theorem r_iret {post : Int32 → xM → Prop} {v : Int32} (C : xC p s m args meth c cc nL (some .int) own Ts D cl tys N0) (hM : xW D cl N0 M H) (hS : va_S (xA N0) s.heap H locs) (hp : post v M) (hdg : decode cc pc = .ok (.ireturn, 1)) : W p l e R s m args below meth c H locs cells slots (MQ below (va_Qi post (xB D cl tys N0) (xA N0)) args s cells slots (xA N0)) (F0 m pc ls [.int v]) :=
  W.iret (v := v) C.1 C.2.1 C.2.2.2.2.2.1 (fun t ht hW => ⟨⟨v, M, rfl, hp, xB_end C hM hS ht hW⟩, hS.F ht⟩) hS.2.2 hdg C.2.2.2.2.2.2.1
theorem r_zret {post : Int32 → xM → Prop} {v : Int32} (C : xC p s m args meth c cc nL (some .boolean) own Ts D cl tys N0) (hM : xW D cl N0 M H) (hS : va_S (xA N0) s.heap H locs) (hn : narrow .boolean (.int v) = .int v) (hp : post v M) (hdg : decode cc pc = .ok (.ireturn, 1)) : W p l e R s m args below meth c H locs cells slots (MQ below (va_Qi post (xB D cl tys N0) (xA N0)) args s cells slots (xA N0)) (F0 m pc ls [.int v]) :=
  W.zret (v := v) C.1 C.2.1 C.2.2.2.2.2.1 hn (fun t ht hW => ⟨⟨v, M, rfl, hp, xB_end C hM hS ht hW⟩, hS.F ht⟩) hS.2.2 hdg C.2.2.2.2.2.2.1
theorem r_lret {post : Int64 → xM → Prop} {v : Int64} (C : xC p s m args meth c cc nL (some .long) own Ts D cl tys N0) (hM : xW D cl N0 M H) (hS : va_S (xA N0) s.heap H locs) (hp : post v M) (hdg : decode cc pc = .ok (.lreturn, 1)) : W p l e R s m args below meth c H locs cells slots (MQ below (va_Ql post (xB D cl tys N0) (xA N0)) args s cells slots (xA N0)) (F0 m pc ls [.long v]) :=
  W.lret (v := v) C.1 C.2.1 C.2.2.2.2.2.1 (fun t ht hW => ⟨⟨v, M, rfl, hp, xB_end C hM hS ht hW⟩, hS.F ht⟩) hS.2.2 hdg C.2.2.2.2.2.2.1
theorem r_vret {post : xM → Prop} (C : xC p s m args meth c cc nL none own Ts D cl tys N0) (hM : xW D cl N0 M H) (hS : va_S (xA N0) s.heap H locs) (hp : post M) (hdg : decode cc pc = .ok (.return_, 1)) : W p l e R s m args below meth c H locs cells slots (MQ below (va_Qv post (xB D cl tys N0) (xA N0)) args s cells slots (xA N0)) (F0 m pc ls []) :=
  W.vret C.1 C.2.1 C.2.2.2.2.2.1 (fun t ht hW => ⟨⟨M, rfl, hp, xB_end C hM hS ht hW⟩, hS.F ht⟩) hS.2.2 hdg C.2.2.2.2.2.2.1
theorem r_aret {post : xM × Nat → Prop} {v : Nat} {rt : FieldType} (hrt : (∃ n, rt = .object n) ∨ ∃ t, rt = .array t) (C : xC p s m args meth c cc nL (some rt) own Ts D cl tys N0) (hM : xW D cl N0 M H) (hS : va_S (xA N0) s.heap H locs) (hp : post (M, v)) (hdg : decode cc pc = .ok (.areturn, 1)) : W p l e R s m args below meth c H locs cells slots (MQ below (va_Qr (S := xM) (fun _ => True) (fun M1 ra t => post (M1, ra) ∧ xB D cl tys N0 M1 t) (xA N0)) args s cells slots (xA N0)) (F0 m pc ls [.ref v]) :=
  W.aret (v := .ref v) C.1 C.2.1 C.2.2.2.2.2.1 hrt (Or.inr ⟨v, rfl⟩) (fun t ht hW => ⟨⟨M, v, rfl, trivial, hp, xB_end C hM hS ht hW⟩, hS.F ht⟩) hS.2.2 hdg C.2.2.2.2.2.2.1
end RRET
theorem r_inc (i : Nat) : nI i + Int32.ofInt 1 = nI (i + 1) := nI_1 i
theorem r_dec (i : Nat) : nI (i + 1) + Int32.ofInt (-1) = nI i := pk_m1 i
theorem xset_id {M : xM} {a : Nat} {e : va_E} (h : M a = some e) : xset M a e = M := by
  funext b
  by_cases hb : b = a
  · subst hb; rw [xset_s, h]
  · rw [xset_n hb]
theorem xset_xset {M : xM} {a : Nat} {e e' : va_E} : xset (xset M a e) a e' = xset M a e' := by
  funext b
  by_cases hb : b = a
  · subst hb; rw [xset_s, xset_s]
  · rw [xset_n hb, xset_n hb, xset_n hb]
-- THIS CLAIM'S ARRAYS: ints, booleans, points, rows of ints
abbrev xT (kA : Nat → ClassId) : List (ClassId × FieldType) := [(kA 0, .int), (kA 1, .boolean), (kA 2, .object "LimbCurves$Point"), (kA 3, .array .int)]
abbrev cI (l : Launch) (y : MethodName) (ws : List Cond) (rm : Room) (av : List Value) (D : va_G) (kA : Nat → ClassId) (N0 : Nat) (M : xM) (post : Int32 → xM → Prop) : Prop := Met l y ws rm (va_Pc av (xB D vwCl (xT kA) N0 M)) (va_Qi post (xB D vwCl (xT kA) N0) (xA N0)) 0 0 (xA N0)
abbrev cJ (l : Launch) (y : MethodName) (ws : List Cond) (rm : Room) (av : List Value) (D : va_G) (kA : Nat → ClassId) (N0 : Nat) (M : xM) (post : Int64 → xM → Prop) : Prop := Met l y ws rm (va_Pc av (xB D vwCl (xT kA) N0 M)) (va_Ql post (xB D vwCl (xT kA) N0) (xA N0)) 0 0 (xA N0)
abbrev cV (l : Launch) (y : MethodName) (ws : List Cond) (rm : Room) (av : List Value) (D : va_G) (kA : Nat → ClassId) (N0 : Nat) (M : xM) (post : xM → Prop) : Prop := Met l y ws rm (va_Pc av (xB D vwCl (xT kA) N0 M)) (va_Qv post (xB D vwCl (xT kA) N0) (xA N0)) 0 0 (xA N0)
abbrev cR (l : Launch) (y : MethodName) (ws : List Cond) (rm : Room) (av : List Value) (D : va_G) (kA : Nat → ClassId) (N0 : Nat) (M : xM) (post : xM × Nat → Prop) : Prop := Met l y ws rm (va_Pc av (xB D vwCl (xT kA) N0 M)) (va_Qr (S := xM) (fun _ => True) (fun M1 ra t => post (M1, ra) ∧ xB D vwCl (xT kA) N0 M1 t) (xA N0)) 0 0 (xA N0)
/-- limbs: none is below 0 -/
def nn (f : Nat → Int32) (n : Nat) : Prop := ∀ j, j < n → 0 ≤ (f j).toInt
theorem nn_dg {f : Nat → Int32} {n j : Nat} (h : nn f n) (hj : j < n) : (dg (f j) : Int) = (f j).toInt := dg_int (h j hj)
theorem r_decI (x : Int32) : x + Int32.ofInt (-1) = x - 1 := by
  rw [Int32.sub_eq_add_neg]
  rfl
theorem r_decN {i k : Nat} {z : Int32} (hz : z = -nI k) (h : k ≤ i) : nI i + z = nI (i - k) := by
  rw [hz, ← Int32.sub_eq_add_neg, pk_sub h]
-- one limb of a sum or a difference
theorem cmb_v {cy : Int64} {x y sg : Int32} {σ : Int} (hσ : sg.toInt = σ) (hs : σ = 1 ∨ σ = -1) (h1 : -1 ≤ cy.toInt) (h2 : cy.toInt ≤ 1) : (cy + (x.toInt64 + sg.toInt64 * y.toInt64)).toInt = cy.toInt + (x.toInt + σ * y.toInt) := by
  have a1 := i_lo x
  have a2 := i_hi x
  have b1 := i_lo y
  have b2 := i_hi y
  have hm : (sg.toInt64 * y.toInt64).toInt = σ * y.toInt := l_mul (l_i2l hσ) (l_i2l rfl) (by rcases hs with h | h <;> rw [h] <;> omega) (by rcases hs with h | h <;> rw [h] <;> omega)
  rcases hs with h | h
  · rw [h] at hm ⊢
    exact l_add rfl (l_add (l_i2l rfl) hm (by omega) (by omega)) (by omega) (by omega)
  · rw [h] at hm ⊢
    exact l_add rfl (l_add (l_i2l rfl) hm (by omega) (by omega)) (by omega) (by omega)
theorem cmb_o (v : Int64) : ((v &&& 2147483647).toInt32).toInt = v.toInt % 2147483648 := l_l2i (l_and31 v) (by omega) (by omega)
theorem cmb_c (v : Int64) : (v >>> ((nI 31).toInt64 &&& 63)).toInt = v.toInt / 2147483648 := l_shr v _ 31 (by decide)
theorem cmb_step {A V1 V2 P d1 d2 : Nat} {cy T σ : Int} (hI : (A : Int) + cy * P = V1 + σ * V2) (hT : T = cy + (d1 + σ * d2)) : ((A + (T % 2147483648).toNat * P : Nat) : Int) + (T / 2147483648) * ((P * BB : Nat) : Int) = ((V1 + d1 * P : Nat) : Int) + σ * ((V2 + d2 * P : Nat) : Int) := by
  have hr : ((T % 2147483648).toNat : Int) = T % 2147483648 := Int.toNat_of_nonneg (Int.emod_nonneg _ (by decide))
  have hd := Int.mul_ediv_add_emod T 2147483648
  rw [Int.natCast_add, Int.natCast_mul, hr, Int.natCast_mul, Int.natCast_add, Int.natCast_add, Int.natCast_mul, Int.natCast_mul]
  have hB : ((BB : Nat) : Int) = 2147483648 := rfl
  rw [hB]
  generalize T % 2147483648 = r at hd ⊢
  generalize T / 2147483648 = q at hd ⊢
  subst hT
  grind
theorem al_get {M : xM} {out one n i : Nat} {cA : ClassId} {f f0 f1 : Nat → Int32} (h0 : M out = some (xI cA n f0)) (h1 : M one = some (xI cA n f1)) (hf : ∀ j, i ≤ j → f j = f0 j) : ∃ g, xset M out (xI cA n f) one = some (xI cA n g) ∧ ∀ j, i ≤ j → g j = f1 j := by
  by_cases h : one = out
  · subst h
    rw [h0] at h1
    cases h1
    exact ⟨f, xset_s, hf⟩
  · exact ⟨f1, by rw [xset_n h]; exact h1, fun _ _ => rfl⟩
theorem V_upd {f : Nat → Int32} {i : Nat} {x : Int32} : V (upd f i x) (i + 1) = V f i + dg x * BB ^ i := by
  rw [V_s, V_upd_ge (Nat.le_refl i), pk_us]
