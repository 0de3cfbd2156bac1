theorem in_X5_init_X0 : ∀ w ∈ wsX00, w ∈ wsX5_init := by decide +kernel
theorem in_X5_init_X2 : ∀ w ∈ wsX20, w ∈ wsX5_init := by decide +kernel
theorem in_X5_init_X3 : ∀ w ∈ wsX30, w ∈ wsX5_init := by decide +kernel
theorem in_X5_init_X4 : ∀ w ∈ wsX40, w ∈ wsX5_init := by decide +kernel
theorem in_X5_init_X5 : ∀ w ∈ wsX50, w ∈ wsX5_init := by decide +kernel
def zO (D : va_G) (kA : Nat → ClassId) (N0 z : Nat) (M : xM) (U : State) : Prop := zB D vwCl (xT kA) N0 z M U ∧ va_AO "LimbCurves$Point" U ∧ zAO U
theorem zAO.moved {u U : State} (hvm : u.vm.Alike U.vm) (h : zAO u) : zAO U := by
  obtain ⟨comp, c, k, h1, h2, h3, h4, h5⟩ := arrayOverA_spec h
  obtain ⟨k', hk', he⟩ := hvm.2.2 _ _ h3
  have hi : (U.vm.classes.findIdx? fun (x : Class) => match x.kind with | .array component _ => component == comp | _ => false) = some c := by
    have e1 := va_idx_bare U.vm comp
    have e2 := va_idx_bare u.vm comp
    first | rw [hvm.bare_eq] at e1 | rw [← hvm.bare_eq] at e1
    exact (e1.symm.trans e2).trans h2
  have hkind : k'.kind = .array comp (.array .int) := by rw [he]; exact h4
  have f1 : U.vm.findClass (FieldType.array .int).toString = some comp := by rw [hvm.findClass]; exact h1
  have f2 : U.vm.findClass ("[" ++ (FieldType.array .int).toString) = some c := by rw [hvm.findClass]; exact h5
  unfold zAO Cond.before Cond.holds
  simp only [Cond.value]
  rw [f1, Option.bind_some]
  refine (congrArg (fun o : Option Nat => (o.bind (fun c => (U.vm.classes[c]?).map fun (k : Class) => match k.kind with | .array _ ty => decide (ty = FieldType.array .int) && decide (U.vm.findClass ("[" ++ (FieldType.array .int).toString) = some c) | _ => false) == some true)) hi).trans ?_
  simp [hk', hkind, f2]
theorem r_metO {l : Launch} {y : MethodName} {ws ws' : List Cond} {rm : Room} {Qc : Array Value → State → Outcome → State → Prop} {mc ms : Nat} {cc : ByteArray} {maxL : Nat} {ret : Option FieldType} {av : List Value} {D : va_G} {kA : Nat → ClassId} {N0 z : Nat} {M : xM}
    (hy : plainName y.cls = true) (hw : ws = Cond.code y cc maxL ret :: ws') (hav : (lg_sl av).length ≤ maxL)
    (body : ∀ (p : Program) (e : Env) (s : State) (m : MethodId) (below : List Frame) (meth : Method) (c : Code) (ls : Array Slot), xC p s m av.toArray meth c cc maxL ret y.cls ws D vwCl (xT kA) N0 → xW D vwCl N0 M s.heap → zsz s.heap z → va_AO "LimbCurves$Point" s → zAO s → meth.name = y.name → lv_has ls maxL (lv_args 0 av) →
      W p l e rm s m av.toArray below meth c s.heap [] 0 0 (MQ below Qc av.toArray s mc ms (xA N0)) (F0 m 0 ls [])) : Met l y ws rm (va_Pc av (zO D kA N0 z M)) Qc mc ms (xA N0) := by
  refine Met.ofW (cc := cc) (maxL := maxL) (ret := ret) hy hw ?_
  intro p e s m args below meth c s₁ B hml hv
  obtain ⟨rfl, ⟨⟨hN, hM, hK⟩, hz⟩, ha1, ha2⟩ := hv
  have hl := lv_entry av (n := maxL) hav
  rw [lg_entry_eq]
  exact body p e s m below meth c _ ⟨B.exec, B.bytes, hml, findClass_of_methodNamed B.named, atoms_spec (ws := ws) B.pre, B.returns, B.notSynchronized, hK, hN⟩ hM hz ha1 ha2 (name_of_methodNamed B.named B.method).1 hl
theorem minmax {x : Int32} : (if nI 1 < (if x < nI 9 then x else nI 9) then (if x < nI 9 then x else nI 9) else nI 1) = nI (spNew x).L := by
  rw [newL]
  by_cases h1 : x < nI 9
  · rw [if_pos h1]
    rw [ilt, t_9] at h1
    by_cases h2 : nI 1 < x
    · rw [if_pos h2]
      rw [ilt, t_1] at h2
      rw [if_neg (by omega), if_neg (by omega)]
      exact ix_eq (by omega)
    · rw [if_neg h2]
      rw [ilt, t_1] at h2
      by_cases h3 : x.toInt < 1
      · rw [if_pos h3]
      · rw [if_neg h3, if_neg (by omega)]
        have := ix_int (x := x) (by omega)
        rw [show ix x = 1 by omega]
  · rw [if_neg h1]
    rw [ilt, t_9] at h1
    rw [if_pos (by decide), if_neg (by omega)]
    by_cases h3 : 9 < x.toInt
    · rw [if_pos h3]
    · rw [if_neg h3]
      have := ix_int (x := x) (by omega)
      rw [show ix x = 9 by omega]
theorem isN_0 {kA : Nat → ClassId} {M : xM} {a L : Nat} (h : M a = some (xI (kA 0) L (fun _ => 0))) : isN kA M a L 0 := ⟨_, h, fun j _ => (by decide : 0 ≤ (0 : Int32).toInt), Vw_zero (fun j _ => rfl)⟩
section INITD
variable {p : Program} {l : Launch} {e : Env} {R : Room} {s : State} {m : MethodId} {args : Array Value} {below : List Frame} {meth : Method} {c : Code} {Q : State → Prop} {cells slots : Nat} {ret : Option FieldType} {D : va_G} {kA : Nat → ClassId} {N0 : Nat}
set_option maxRecDepth 100000 in
theorem c_initDesk (l : Launch) (D : va_G) (kA : Nat → ClassId) (N0 h : Nat) (x : Int32) (M : xM) (ho : M h = some (xO 4 [.int 0, .null, .null, .null, .null, .null, .null, .null, .null, .null, .int 0, .int 0, .int 0])) : Met l yX5_init wsX5_init (zR 2 80 700) (va_Pc [.ref h, .int x] (zO D kA N0 (h + 1) M)) (va_Qv (fun M1 => Dk kA M1 h (spNew x) ∧ ∀ b, b < h → M1 b = M b) (zB D vwCl (xT kA) N0 (h + 76)) (xA N0)) 80 700 (xA N0) := by
  obtain ⟨L, eL⟩ : ∃ q, (spNew x).L = q := ⟨_, rfl⟩
  have hLb := newL_b (x := x)
  rw [eL] at hLb
  obtain ⟨hL0, hL9⟩ := hLb
  refine r_metO (cc := cX5_init) (maxL := 3) (ret := none) (by decide) rfl (Nat.le_of_ble_eq_true rfl) ?_
  intro p e s m below meth c ls C hM hz hao hza hnm hl
  obtain ⟨hx, hb, hml, hown, hts, hr, hlocks, hK, hN⟩ := _root_.id C
  have hS : va_S (xA N0) s.heap s.heap [] := va_S.rf
  have hl : lv_has ls 3 [(0, .ref h), (1, .int x)] := hl
  have hfr : ∀ b, (b < h) → M b = M b := fun _ _ => rfl
  refine lv_aload_n hx hb dX5_init_0 rfl (lv_at hl 0 rfl) ?_
  refine r_objI C (hts (.methodLink RX5 1 objectInit) (by decide +kernel)) (hts (.instanceMethod objectInit) (by decide +kernel)) (hts (.code objectInit ⟨#[0xb1]⟩ 1 none) (by decide +kernel)) hl.1 (Nat.le_of_ble_eq_true rfl) (Nat.le_of_ble_eq_true rfl) dX5_init_1 ?_
  refine lv_aload_n hx hb dX5_init_4 rfl (lv_at hl 0 rfl) ?_
  refine lv_iconst (v := nI 1) hx hb dX5_init_5 (by decide) ?_
  refine lv_bipush (v := nI 9) hx hb dX5_init_6 (by decide) ?_
  refine lv_iload_n hx hb dX5_init_8 rfl (lv_at hl 1 rfl) ?_
  refine va_mmin hx hb (by rw [hml]; exact hl.1.symm) hown (hts (.methodLink RX5 9 Lib.Math.min.name) (by decide +kernel)) (hts (.static Lib.Math.min.name) (by decide +kernel)) (hts (.initialized "java/lang/Math") (by decide +kernel)) (hts (.code Lib.Math.min.name Lib.Math.min.code 2 (some .int)) (by decide +kernel)) (Nat.le_of_ble_eq_true rfl) (Nat.le_of_ble_eq_true rfl) (Nat.le_of_ble_eq_true rfl) (Nat.le_of_ble_eq_true rfl) dX5_init_9 ?_
  refine va_mmax hx hb (by rw [hml]; exact hl.1.symm) hown (hts (.methodLink RX5 15 Lib.Math.max.name) (by decide +kernel)) (hts (.static Lib.Math.max.name) (by decide +kernel)) (hts (.initialized "java/lang/Math") (by decide +kernel)) (hts (.code Lib.Math.max.name Lib.Math.max.code 2 (some .int)) (by decide +kernel)) (Nat.le_of_ble_eq_true rfl) (Nat.le_of_ble_eq_true rfl) (Nat.le_of_ble_eq_true rfl) (Nat.le_of_ble_eq_true rfl) dX5_init_12 ?_
  rw [minmax, eL]
  refine z_putF (v := .int (nI L)) (ty := .int) hx hb hts in_X5_init_X5 tyX5 tyX5_ok nmX5 hown hK hM hS hz (ho) rfl 0 (by decide) (hts (.fieldLink RX5 18 "LimbCurves" "limbs" "I") (by decide +kernel)) (fun _ h9 => h9) rfl hnm rfl (by decide +kernel) rfl rfl (Nat.le_of_ble_eq_true rfl) dX5_init_15 (fun H locs hM hS hz => ?_)
  have hM : xW D vwCl N0 (xset M h (xO 4 [.int (nI L), .null, .null, .null, .null, .null, .null, .null, .null, .null, .int 0, .int 0, .int 0])) H := hM
  obtain ⟨M9, eM9⟩ : ∃ q, xset M h (xO 4 [.int (nI L), .null, .null, .null, .null, .null, .null, .null, .null, .null, .int 0, .int 0, .int 0]) = q := ⟨_, rfl⟩
  rw [eM9] at hM
  replace hfr : ∀ b, (b < h) → M9 b = M b := fun b hb9 => xkeep eM9 (by omega) (hfr b hb9)
  replace ho := xself eM9
  clear eM9
  refine lv_aload_n hx hb dX5_init_18 rfl (lv_at hl 0 rfl) ?_
  refine lv_iconst (v := nI 4) hx hb dX5_init_19 (by decide) ?_
  refine lv_aload_n hx hb dX5_init_20 rfl (lv_at hl 0 rfl) ?_
  refine x_get (v := .int (nI L)) hx hb hts in_X5_init_X5 hown hK hM (ho) rfl 0 (by decide) (hts (.fieldLink RX5 18 "LimbCurves" "limbs" "I") (by decide +kernel)) (fun _ h9 => h9) rfl dX5_init_21 ?_
  refine r_mna C hM hS hz rfl rfl (hts (.classLink RX5 22 "[[I") (by decide +kernel)) hza (hts (.arrayClass .int) (by decide +kernel)) (by omega) (by omega) (by show _ ≤ 80; omega) (by show _ ≤ 700; omega) dX5_init_24 (fun H hM hS hz => ?_)
  obtain ⟨Ma, eMa⟩ : ∃ q, xset M9 (h + 1) (xQ (kA 3) 4 (fun i => if i < 4 then some (h + 1 + 1 + i) else none)) = q := ⟨_, rfl⟩
  rw [eMa] at hM
  obtain ⟨M9, eM9⟩ : ∃ q, xrow Ma (h + 1 + 1) 4 (xI (kA 0) L (fun _ => 0)) = q := ⟨_, rfl⟩
  rw [eM9] at hM
  have hpar := xkeepR eM9 (by omega) (xself eMa)
  have hrow : ∀ i, i < 4 → M9 (h + 2 + i) = some (xI (kA 0) L (fun _ => 0)) := fun i hi => xselfR eM9 (by omega) (by omega)
  replace ho := xkeepR eM9 (by omega) (xkeep eMa (by omega) ho)
  replace hfr : ∀ b, (b < h) → M9 b = M b := fun b hb9 => xkeepR eM9 (by omega) (xkeep eMa (by omega) (hfr b hb9))
  clear eM9 eMa
  replace hz : zsz H (h + 6) := hz
  refine z_putF (v := .ref (h + 1)) (ty := (.array (.array .int))) hx hb hts in_X5_init_X5 tyX5 tyX5_ok nmX5 hown hK hM hS hz (ho) rfl 1 (by decide) (hts (.fieldLink RX5 24 "LimbCurves" "parameters" "[[I") (by decide +kernel)) (fun _ h9 => h9) rfl hnm rfl (by decide +kernel) rfl rfl (Nat.le_of_ble_eq_true rfl) dX5_init_28 (fun H locs hM hS hz => ?_)
  have hM : xW D vwCl N0 (xset M9 h (xO 4 [.int (nI L), .ref (h + 1), .null, .null, .null, .null, .null, .null, .null, .null, .int 0, .int 0, .int 0])) H := hM
  obtain ⟨M9, eM9⟩ : ∃ q, xset M9 h (xO 4 [.int (nI L), .ref (h + 1), .null, .null, .null, .null, .null, .null, .null, .null, .int 0, .int 0, .int 0]) = q := ⟨_, rfl⟩
  rw [eM9] at hM
  replace hpar := xkeep eM9 (by omega) hpar
  replace hrow : ∀ i, i < 4 → M9 (h + 2 + i) = some (xI (kA 0) L (fun _ => 0)) := fun i hi9 => xkeep eM9 (by omega) (hrow i hi9)
  replace hfr : ∀ b, (b < h) → M9 b = M b := fun b hb9 => xkeep eM9 (by omega) (hfr b hb9)
  replace ho := xself eM9
  clear eM9
  refine lv_aload_n hx hb dX5_init_31 rfl (lv_at hl 0 rfl) ?_
  refine lv_bipush (v := nI 8) hx hb dX5_init_32 (by decide) ?_
  refine r_newq (t0 := 2) C hM hS hz rfl (hts (.classLink RX5 27 RX2) (by decide +kernel)) hao (by omega) (by show _ ≤ 80; omega) (by show _ ≤ 700; omega) dX5_init_34 (fun H hM hS hz => ?_)
  obtain ⟨M9, eM9⟩ : ∃ q, xset M9 (h + 6) (xQ (kA 2) 8 (fun _ => none)) = q := ⟨_, rfl⟩
  rw [eM9] at hM
  replace hpar := xkeep eM9 (by omega) hpar
  replace hrow : ∀ i, i < 4 → M9 (h + 2 + i) = some (xI (kA 0) L (fun _ => 0)) := fun i hi9 => xkeep eM9 (by omega) (hrow i hi9)
  replace ho := xkeep eM9 (by omega) ho
  replace hfr : ∀ b, (b < h) → M9 b = M b := fun b hb9 => xkeep eM9 (by omega) (hfr b hb9)
  have hpts := xself eM9
  clear eM9
  replace hz : zsz H (h + 7) := hz
  refine z_putF (v := .ref (h + 6)) (ty := (.array (.object "LimbCurves$Point"))) hx hb hts in_X5_init_X5 tyX5 tyX5_ok nmX5 hown hK hM hS hz (ho) rfl 2 (by decide) (hts (.fieldLink RX5 29 "LimbCurves" "points" "[LLimbCurves$Point;") (by decide +kernel)) (fun _ h9 => h9) rfl hnm rfl (by decide +kernel) rfl rfl (Nat.le_of_ble_eq_true rfl) dX5_init_37 (fun H locs hM hS hz => ?_)
  have hM : xW D vwCl N0 (xset M9 h (xO 4 [.int (nI L), .ref (h + 1), .ref (h + 6), .null, .null, .null, .null, .null, .null, .null, .int 0, .int 0, .int 0])) H := hM
  obtain ⟨M9, eM9⟩ : ∃ q, xset M9 h (xO 4 [.int (nI L), .ref (h + 1), .ref (h + 6), .null, .null, .null, .null, .null, .null, .null, .int 0, .int 0, .int 0]) = q := ⟨_, rfl⟩
  rw [eM9] at hM
  replace hpar := xkeep eM9 (by omega) hpar
  replace hrow : ∀ i, i < 4 → M9 (h + 2 + i) = some (xI (kA 0) L (fun _ => 0)) := fun i hi9 => xkeep eM9 (by omega) (hrow i hi9)
  replace hpts := xkeep eM9 (by omega) hpts
  replace hfr : ∀ b, (b < h) → M9 b = M b := fun b hb9 => xkeep eM9 (by omega) (hfr b hb9)
  replace ho := xself eM9
  clear eM9
  refine lv_iconst (v := nI 0) hx hb dX5_init_40 (by decide) ?_
  refine lv_istore_n (lv' := [(2, .int (nI 0)), (0, .ref h), (1, .int x)]) hx hb dX5_init_41 rfl hl (by decide) rfl (fun ls hl => ?_)
  refine W.widen (k := 6 + 3 * 0) (n := 50 + 21 * 0) (by omega) (by omega) ?_
  -- the points are made
  have lp : ∀ (k i : Nat) (g : Nat → Option Nat) (M9 : xM) (H : Heap) (locs : List Loc) (ls : Array Slot), i + k = 8 → M9 h = some (xO 4 [.int (nI L), .ref (h + 1), .ref (h + 6), .null, .null, .null, .null, .null, .null, .null, .int 0, .int 0, .int 0]) → M9 (h + 1) = some (xQ (kA 3) 4 (fun i => if i < 4 then some (h + 1 + 1 + i) else none)) → (∀ i, i < 4 → M9 (h + 2 + i) = some (xI (kA 0) L (fun _ => 0))) → M9 (h + 6) = some (xQ (kA 2) 8 g) → (∀ j, j < i → g j = some (h + 7 + 3 * j)) → (∀ j, j < i → M9 (h + 7 + 3 * j) = some (xO 1 [.ref (h + 7 + 3 * j + 1), .ref (h + 7 + 3 * j + 1 + 1), .int (nI 1)])) → (∀ j, j < i → M9 (h + 7 + 3 * j + 1) = some (xI (kA 0) L (fun _ => 0))) → (∀ j, j < i → M9 (h + 7 + 3 * j + 1 + 1) = some (xI (kA 0) L (fun _ => 0))) → (∀ b, b < h → M9 b = M b) → xW D vwCl N0 M9 H → va_S (xA N0) s.heap H locs → zsz H (h + 7 + 3 * i) → lv_has ls 3 [(2, .int (nI i)), (0, .ref h), (1, .int x)] → W p l e (zR 2 80 700) s m [.ref h, .int x].toArray below meth c H locs (6 + 3 * i) (50 + 21 * i) (MQ below (va_Qv (fun M1 => Dk kA M1 h (spNew x) ∧ ∀ b, b < h → M1 b = M b) (zB D vwCl (xT kA) N0 (h + 76)) (xA N0)) [.ref h, .int x].toArray s 80 700 (xA N0)) (F0 m 42 ls []) := by
    intro k
    induction k with
    | succ k ih =>
      intro i g M9 H locs ls hik ho hpar hrow hpts hg hp1 hp2 hp3 hfr hM hS hz hl
      have hK2 : (xT kA)[2]? = some (kA 2, .object "LimbCurves$Point") := rfl
      refine lv_iload_n hx hb dX5_init_42 rfl (lv_at hl 0 rfl) ?_
      refine lv_aload_n hx hb dX5_init_43 rfl (lv_at hl 1 rfl) ?_
      refine x_get (v := .ref (h + 6)) hx hb hts in_X5_init_X5 hown hK hM (ho) rfl 2 (by decide) (hts (.fieldLink RX5 29 "LimbCurves" "points" "[LLimbCurves$Point;") (by decide +kernel)) (fun _ h9 => h9) rfl dX5_init_44 ?_
      refine x_alen hx hb hK hM 2 hpts hK2 dX5_init_47 ?_
      refine r_icmp_geN (tgt := 74) C (by omega) (by omega) dX5_init_48 (by decide) (fun hc => ?_) (fun hc => ?_)
      · omega
      · refine lv_aload_n hx hb dX5_init_51 rfl (lv_at hl 1 rfl) ?_
        refine x_get (v := .ref (h + 6)) hx hb hts in_X5_init_X5 hown hK hM (ho) rfl 2 (by decide) (hts (.fieldLink RX5 29 "LimbCurves" "points" "[LLimbCurves$Point;") (by decide +kernel)) (fun _ h9 => h9) rfl dX5_init_52 ?_
        refine lv_iload_n hx hb dX5_init_55 rfl (lv_at hl 0 rfl) ?_
        refine r_new (ci := 1) (fs := [.null, .null, .int 0]) C hM hS hz in_X5_init_X2 tyX2 tyX2_ok (hts (.classLink RX5 27 RX2) (by decide +kernel)) (hts (.instantiable RX2 3) (by decide +kernel)) (hts (.initialized RX2) (by decide +kernel)) rfl (fun j hj => by match j, hj with | 0, _ => rfl | 1, _ => rfl | 2, _ => rfl | j + 3, h => omega) (by show _ ≤ 80; omega) (by show _ ≤ 700; omega) dX5_init_56 (fun H hM hS hz => ?_)
        obtain ⟨M9, eM9⟩ : ∃ q, xset M9 (h + 7 + 3 * i) (xO 1 [.null, .null, .int 0]) = q := ⟨_, rfl⟩
        rw [eM9] at hM
        replace ho := xkeep eM9 (by omega) ho
        replace hpar := xkeep eM9 (by omega) hpar
        replace hrow : ∀ i9, i9 < 4 → M9 (h + 2 + i9) = some (xI (kA 0) L (fun _ => 0)) := fun i9 hi9 => xkeep eM9 (by omega) (hrow i9 hi9)
        replace hpts := xkeep eM9 (by omega) hpts
        replace hp1 : ∀ j, j < i → M9 (h + 7 + 3 * j) = some (xO 1 [.ref (h + 7 + 3 * j + 1), .ref (h + 7 + 3 * j + 1 + 1), .int (nI 1)]) := fun j hi9 => xkeep eM9 (by omega) (hp1 j hi9)
        replace hp2 : ∀ j, j < i → M9 (h + 7 + 3 * j + 1) = some (xI (kA 0) L (fun _ => 0)) := fun j hi9 => xkeep eM9 (by omega) (hp2 j hi9)
        replace hp3 : ∀ j, j < i → M9 (h + 7 + 3 * j + 1 + 1) = some (xI (kA 0) L (fun _ => 0)) := fun j hi9 => xkeep eM9 (by omega) (hp3 j hi9)
        replace hfr : ∀ b, (b < h) → M9 b = M b := fun b hb9 => xkeep eM9 (by omega) (hfr b hb9)
        have hnew := xself eM9
        clear eM9
        replace hz : zsz H (h + 7 + 3 * i + 1) := hz
        refine lv_dup hx hb dX5_init_59 rfl ?_
        refine lv_aload_n hx hb dX5_init_60 rfl (lv_at hl 1 rfl) ?_
        refine x_get (v := .int (nI L)) hx hb hts in_X5_init_X5 hown hK hM (ho) rfl 0 (by decide) (hts (.fieldLink RX5 18 "LimbCurves" "limbs" "I") (by decide +kernel)) (fun _ h9 => h9) rfl dX5_init_61 ?_
        refine r_Ivz (As := [.int (nI L)]) (rest := [.ref (h + 7 + 3 * i), .int (nI i), .ref (h + 6)]) C hM hS hz (c_initPt l D kA N0 (h + 7 + 3 * i + 1) (h + 7 + 3 * i) L M9 hnew (by omega) hL9) gX5_init_X2_init (hts (.initialized RX2) (by decide +kernel)) (hts (.methodLink RX5 33 yX2_init) (by decide +kernel)) (hts (.instanceMethod yX2_init) (by decide +kernel)) rfl rfl rfl rfl ⟨by decide +kernel, by decide +kernel, (by decide +kernel : (parseMethodDescriptor yX2_init.desc).map (fun d => d.parameters.length) = some 1)⟩ ⟨Nat.le_of_ble_eq_true rfl, Nat.le_of_ble_eq_true rfl⟩ hl.1 rfl (Nat.le_of_ble_eq_true rfl) dX5_init_64 ⟨(by show _ ≤ 80; omega), (by show _ ≤ 700; omega)⟩ (fun M9 H locs hp hM hS hz => ?_)
        obtain ⟨q1, q2, q3, hpf⟩ := hp
        replace ho := hpf _ (by omega) |>.trans ho
        replace hpar := hpf _ (by omega) |>.trans hpar
        replace hrow : ∀ i9, i9 < 4 → M9 (h + 2 + i9) = some (xI (kA 0) L (fun _ => 0)) := fun i9 hi9 => hpf _ (by omega) |>.trans (hrow i9 hi9)
        replace hpts := hpf _ (by omega) |>.trans hpts
        replace hp1 : ∀ j, j < i → M9 (h + 7 + 3 * j) = some (xO 1 [.ref (h + 7 + 3 * j + 1), .ref (h + 7 + 3 * j + 1 + 1), .int (nI 1)]) := fun j hi9 => hpf _ (by omega) |>.trans (hp1 j hi9)
        replace hp2 : ∀ j, j < i → M9 (h + 7 + 3 * j + 1) = some (xI (kA 0) L (fun _ => 0)) := fun j hi9 => hpf _ (by omega) |>.trans (hp2 j hi9)
        replace hp3 : ∀ j, j < i → M9 (h + 7 + 3 * j + 1 + 1) = some (xI (kA 0) L (fun _ => 0)) := fun j hi9 => hpf _ (by omega) |>.trans (hp3 j hi9)
        replace hfr : ∀ b, (b < h) → M9 b = M b := fun b hb9 => hpf _ (by omega) |>.trans (hfr b hb9)
        replace hz : zsz H (h + 7 + 3 * i + 3) := hz
        refine r_astq (t0 := 2) (r := (RX2, TX2, 3)) C hM hS hz hpts rfl q1 rfl (by omega) (by omega) dX5_init_67 (fun H locs hM hS hz => ?_)
        obtain ⟨M9, eM9⟩ : ∃ q, xset M9 (h + 6) (xQ (kA 2) 8 (va_up g i (some (h + 7 + 3 * i)))) = q := ⟨_, rfl⟩
        rw [eM9] at hM
        replace ho := xkeep eM9 (by omega) ho
        replace hpar := xkeep eM9 (by omega) hpar
        replace hrow : ∀ i9, i9 < 4 → M9 (h + 2 + i9) = some (xI (kA 0) L (fun _ => 0)) := fun i9 hi9 => xkeep eM9 (by omega) (hrow i9 hi9)
        replace hp1 : ∀ j, j < i → M9 (h + 7 + 3 * j) = some (xO 1 [.ref (h + 7 + 3 * j + 1), .ref (h + 7 + 3 * j + 1 + 1), .int (nI 1)]) := fun j hi9 => xkeep eM9 (by omega) (hp1 j hi9)
        replace hp2 : ∀ j, j < i → M9 (h + 7 + 3 * j + 1) = some (xI (kA 0) L (fun _ => 0)) := fun j hi9 => xkeep eM9 (by omega) (hp2 j hi9)
        replace hp3 : ∀ j, j < i → M9 (h + 7 + 3 * j + 1 + 1) = some (xI (kA 0) L (fun _ => 0)) := fun j hi9 => xkeep eM9 (by omega) (hp3 j hi9)
        replace hfr : ∀ b, (b < h) → M9 b = M b := fun b hb9 => xkeep eM9 (by omega) (hfr b hb9)
        replace q1 := xkeep eM9 (by omega) q1
        replace q2 := xkeep eM9 (by omega) q2
        replace q3 := xkeep eM9 (by omega) q3
        replace hpts := xself eM9
        clear eM9
        refine lv_iinc (v := nI (i + 1)) (lv' := [(2, .int (nI (i + 1))), (0, .ref h), (1, .int x)]) hx hb dX5_init_68 hl (k := 0) rfl (r_inc _) (by decide) rfl (fun ls hl => ?_)
        refine lv_goto (tgt := 42) hx hb dX5_init_71 (by decide) ?_
        refine W.widen (k := 6 + 3 * (i + 1)) (n := 50 + 21 * (i + 1)) (by omega) (by omega) ?_
        refine ih (i + 1) _ M9 H locs ls (by omega) ho hpar hrow hpts (fun j hj => ?_) (fun j hj => ?_) (fun j hj => ?_) (fun j hj => ?_) hfr hM hS hz (lv_sub hl [0, 1, 2] rfl)
        · by_cases q : j = i
          · rw [q]; simp [va_up]
          · simp only [va_up, q, if_false]; exact hg j (by omega)
        · by_cases q : j = i
          · rw [q]; exact q1
          · exact hp1 j (by omega)
        · by_cases q : j = i
          · rw [q]; exact q2
          · exact hp2 j (by omega)
        · by_cases q : j = i
          · rw [q]; exact q3
          · exact hp3 j (by omega)
    | zero =>
      intro i g M9 H locs ls hik ho hpar hrow hpts hg hp1 hp2 hp3 hfr hM hS hz hl
      have hi8 : i = 8 := by omega
      subst hi8
      have hK2 : (xT kA)[2]? = some (kA 2, .object "LimbCurves$Point") := rfl
      refine lv_iload_n hx hb dX5_init_42 rfl (lv_at hl 0 rfl) ?_
      refine lv_aload_n hx hb dX5_init_43 rfl (lv_at hl 1 rfl) ?_
      refine x_get (v := .ref (h + 6)) hx hb hts in_X5_init_X5 hown hK hM (ho) rfl 2 (by decide) (hts (.fieldLink RX5 29 "LimbCurves" "points" "[LLimbCurves$Point;") (by decide +kernel)) (fun _ h9 => h9) rfl dX5_init_44 ?_
      refine x_alen hx hb hK hM 2 hpts hK2 dX5_init_47 ?_
      refine r_icmp_geN (tgt := 74) C (by omega) (by omega) dX5_init_48 (by decide) (fun hc => ?_) (fun hc => ?_)
      · replace hz : zsz H (h + 31) := hz
        refine lv_aload_n hx hb dX5_init_74 rfl (lv_at hl 1 rfl) ?_
        refine lv_bipush (v := nI 8) hx hb dX5_init_75 (by decide) ?_
        refine lv_aload_n hx hb dX5_init_77 rfl (lv_at hl 1 rfl) ?_
        refine x_get (v := .int (nI L)) hx hb hts in_X5_init_X5 hown hK hM (ho) rfl 0 (by decide) (hts (.fieldLink RX5 18 "LimbCurves" "limbs" "I") (by decide +kernel)) (fun _ h9 => h9) rfl dX5_init_78 ?_
        refine r_mna C hM hS hz rfl rfl (hts (.classLink RX5 22 "[[I") (by decide +kernel)) hza (hts (.arrayClass .int) (by decide +kernel)) (by omega) (by omega) (by show _ ≤ 80; omega) (by show _ ≤ 700; omega) dX5_init_81 (fun H hM hS hz => ?_)
        obtain ⟨Ma, eMa⟩ : ∃ q, xset M9 (h + 31) (xQ (kA 3) 8 (fun i => if i < 8 then some (h + 31 + 1 + i) else none)) = q := ⟨_, rfl⟩
        rw [eMa] at hM
        obtain ⟨M9, eM9⟩ : ∃ q, xrow Ma (h + 31 + 1) 8 (xI (kA 0) L (fun _ => 0)) = q := ⟨_, rfl⟩
        rw [eM9] at hM
        have hscs := xkeepR eM9 (by omega) (xself eMa)
        have hsrow : ∀ i, i < 8 → M9 (h + 32 + i) = some (xI (kA 0) L (fun _ => 0)) := fun i hi => xselfR eM9 (by omega) (by omega)
        replace ho := xkeepR eM9 (by omega) (xkeep eMa (by omega) ho)
        replace hpar := xkeepR eM9 (by omega) (xkeep eMa (by omega) hpar)
        replace hrow : ∀ i9, i9 < 4 → M9 (h + 2 + i9) = some (xI (kA 0) L (fun _ => 0)) := fun i9 hi9 => xkeepR eM9 (by omega) (xkeep eMa (by omega) (hrow i9 hi9))
        replace hpts := xkeepR eM9 (by omega) (xkeep eMa (by omega) hpts)
        replace hp1 : ∀ j, j < 8 → M9 (h + 7 + 3 * j) = some (xO 1 [.ref (h + 7 + 3 * j + 1), .ref (h + 7 + 3 * j + 1 + 1), .int (nI 1)]) := fun j hi9 => xkeepR eM9 (by omega) (xkeep eMa (by omega) (hp1 j hi9))
        replace hp2 : ∀ j, j < 8 → M9 (h + 7 + 3 * j + 1) = some (xI (kA 0) L (fun _ => 0)) := fun j hi9 => xkeepR eM9 (by omega) (xkeep eMa (by omega) (hp2 j hi9))
        replace hp3 : ∀ j, j < 8 → M9 (h + 7 + 3 * j + 1 + 1) = some (xI (kA 0) L (fun _ => 0)) := fun j hi9 => xkeepR eM9 (by omega) (xkeep eMa (by omega) (hp3 j hi9))
        replace hfr : ∀ b, (b < h) → M9 b = M b := fun b hb9 => xkeepR eM9 (by omega) (xkeep eMa (by omega) (hfr b hb9))
        clear eM9 eMa
        replace hz : zsz H (h + 40) := hz
        refine z_putF (v := .ref (h + 31)) (ty := (.array (.array .int))) hx hb hts in_X5_init_X5 tyX5 tyX5_ok nmX5 hown hK hM hS hz (ho) rfl 3 (by decide) (hts (.fieldLink RX5 36 "LimbCurves" "scalars" "[[I") (by decide +kernel)) (fun _ h9 => h9) rfl hnm rfl (by decide +kernel) rfl rfl (Nat.le_of_ble_eq_true rfl) dX5_init_85 (fun H locs hM hS hz => ?_)
        have hM : xW D vwCl N0 (xset M9 h (xO 4 [.int (nI L), .ref (h + 1), .ref (h + 6), .ref (h + 31), .null, .null, .null, .null, .null, .null, .int 0, .int 0, .int 0])) H := hM
        obtain ⟨M9, eM9⟩ : ∃ q, xset M9 h (xO 4 [.int (nI L), .ref (h + 1), .ref (h + 6), .ref (h + 31), .null, .null, .null, .null, .null, .null, .int 0, .int 0, .int 0]) = q := ⟨_, rfl⟩
        rw [eM9] at hM
        replace hpar := xkeep eM9 (by omega) hpar
        replace hrow : ∀ i9, i9 < 4 → M9 (h + 2 + i9) = some (xI (kA 0) L (fun _ => 0)) := fun i9 hi9 => xkeep eM9 (by omega) (hrow i9 hi9)
        replace hpts := xkeep eM9 (by omega) hpts
        replace hp1 : ∀ j, j < 8 → M9 (h + 7 + 3 * j) = some (xO 1 [.ref (h + 7 + 3 * j + 1), .ref (h + 7 + 3 * j + 1 + 1), .int (nI 1)]) := fun j hi9 => xkeep eM9 (by omega) (hp1 j hi9)
        replace hp2 : ∀ j, j < 8 → M9 (h + 7 + 3 * j + 1) = some (xI (kA 0) L (fun _ => 0)) := fun j hi9 => xkeep eM9 (by omega) (hp2 j hi9)
        replace hp3 : ∀ j, j < 8 → M9 (h + 7 + 3 * j + 1 + 1) = some (xI (kA 0) L (fun _ => 0)) := fun j hi9 => xkeep eM9 (by omega) (hp3 j hi9)
        replace hscs := xkeep eM9 (by omega) hscs
        replace hsrow : ∀ i9, i9 < 8 → M9 (h + 32 + i9) = some (xI (kA 0) L (fun _ => 0)) := fun i9 hi9 => xkeep eM9 (by omega) (hsrow i9 hi9)
        replace hfr : ∀ b, (b < h) → M9 b = M b := fun b hb9 => xkeep eM9 (by omega) (hfr b hb9)
        replace ho := xself eM9
        clear eM9
        refine lv_aload_n hx hb dX5_init_88 rfl (lv_at hl 1 rfl) ?_
        refine r_new (ci := 2) (fs := [.null, .null, .null, .null, .null, .null, .null, .null, .int 0, .int 0]) C hM hS hz in_X5_init_X3 tyX3 tyX3_ok (hts (.classLink RX5 39 RX3) (by decide +kernel)) (hts (.instantiable RX3 10) (by decide +kernel)) (hts (.initialized RX3) (by decide +kernel)) rfl (fun j hj => by match j, hj with | 0, _ => rfl | 1, _ => rfl | 2, _ => rfl | 3, _ => rfl | 4, _ => rfl | 5, _ => rfl | 6, _ => rfl | 7, _ => rfl | 8, _ => rfl | 9, _ => rfl | j + 10, h => omega) (by show _ ≤ 80; omega) (by show _ ≤ 700; omega) dX5_init_89 (fun H hM hS hz => ?_)
        obtain ⟨M9, eM9⟩ : ∃ q, xset M9 (h + 40) (xO 2 [.null, .null, .null, .null, .null, .null, .null, .null, .int 0, .int 0]) = q := ⟨_, rfl⟩
        rw [eM9] at hM
        replace ho := xkeep eM9 (by omega) ho
        replace hpar := xkeep eM9 (by omega) hpar
        replace hrow : ∀ i9, i9 < 4 → M9 (h + 2 + i9) = some (xI (kA 0) L (fun _ => 0)) := fun i9 hi9 => xkeep eM9 (by omega) (hrow i9 hi9)
        replace hpts := xkeep eM9 (by omega) hpts
        replace hp1 : ∀ j, j < 8 → M9 (h + 7 + 3 * j) = some (xO 1 [.ref (h + 7 + 3 * j + 1), .ref (h + 7 + 3 * j + 1 + 1), .int (nI 1)]) := fun j hi9 => xkeep eM9 (by omega) (hp1 j hi9)
        replace hp2 : ∀ j, j < 8 → M9 (h + 7 + 3 * j + 1) = some (xI (kA 0) L (fun _ => 0)) := fun j hi9 => xkeep eM9 (by omega) (hp2 j hi9)
        replace hp3 : ∀ j, j < 8 → M9 (h + 7 + 3 * j + 1 + 1) = some (xI (kA 0) L (fun _ => 0)) := fun j hi9 => xkeep eM9 (by omega) (hp3 j hi9)
        replace hscs := xkeep eM9 (by omega) hscs
        replace hsrow : ∀ i9, i9 < 8 → M9 (h + 32 + i9) = some (xI (kA 0) L (fun _ => 0)) := fun i9 hi9 => xkeep eM9 (by omega) (hsrow i9 hi9)
        replace hfr : ∀ b, (b < h) → M9 b = M b := fun b hb9 => xkeep eM9 (by omega) (hfr b hb9)
        have hor := xself eM9
        clear eM9
        replace hz : zsz H (h + 41) := hz
        refine lv_dup hx hb dX5_init_92 rfl ?_
        refine lv_aload_n hx hb dX5_init_93 rfl (lv_at hl 1 rfl) ?_
        refine x_get (v := .int (nI L)) hx hb hts in_X5_init_X5 hown hK hM (ho) rfl 0 (by decide) (hts (.fieldLink RX5 18 "LimbCurves" "limbs" "I") (by decide +kernel)) (fun _ h9 => h9) rfl dX5_init_94 ?_
        refine r_Ivz (As := [.int (nI L)]) (rest := [.ref (h + 40), .ref h]) C hM hS hz (c_initRes l D kA N0 (h + 41) (h + 40) L M9 hor (by omega) hL9) gX5_init_X3_init (hts (.initialized RX3) (by decide +kernel)) (hts (.methodLink RX5 41 yX3_init) (by decide +kernel)) (hts (.instanceMethod yX3_init) (by decide +kernel)) rfl rfl rfl rfl ⟨by decide +kernel, by decide +kernel, (by decide +kernel : (parseMethodDescriptor yX3_init.desc).map (fun d => d.parameters.length) = some 1)⟩ ⟨Nat.le_of_ble_eq_true rfl, Nat.le_of_ble_eq_true rfl⟩ hl.1 rfl (Nat.le_of_ble_eq_true rfl) dX5_init_97 ⟨(by show _ ≤ 80; omega), (by show _ ≤ 700; omega)⟩ (fun M9 H locs hp hM hS hz => ?_)
        obtain ⟨ro, ro1, ro2, ro3, ro4, ro5, ro6, ro7, ro8, hpf⟩ := hp
        replace ho := hpf _ (by omega) |>.trans ho
        replace hpar := hpf _ (by omega) |>.trans hpar
        replace hrow : ∀ i9, i9 < 4 → M9 (h + 2 + i9) = some (xI (kA 0) L (fun _ => 0)) := fun i9 hi9 => hpf _ (by omega) |>.trans (hrow i9 hi9)
        replace hpts := hpf _ (by omega) |>.trans hpts
        replace hp1 : ∀ j, j < 8 → M9 (h + 7 + 3 * j) = some (xO 1 [.ref (h + 7 + 3 * j + 1), .ref (h + 7 + 3 * j + 1 + 1), .int (nI 1)]) := fun j hi9 => hpf _ (by omega) |>.trans (hp1 j hi9)
        replace hp2 : ∀ j, j < 8 → M9 (h + 7 + 3 * j + 1) = some (xI (kA 0) L (fun _ => 0)) := fun j hi9 => hpf _ (by omega) |>.trans (hp2 j hi9)
        replace hp3 : ∀ j, j < 8 → M9 (h + 7 + 3 * j + 1 + 1) = some (xI (kA 0) L (fun _ => 0)) := fun j hi9 => hpf _ (by omega) |>.trans (hp3 j hi9)
        replace hscs := hpf _ (by omega) |>.trans hscs
        replace hsrow : ∀ i9, i9 < 8 → M9 (h + 32 + i9) = some (xI (kA 0) L (fun _ => 0)) := fun i9 hi9 => hpf _ (by omega) |>.trans (hsrow i9 hi9)
        replace hfr : ∀ b, (b < h) → M9 b = M b := fun b hb9 => hpf _ (by omega) |>.trans (hfr b hb9)
        replace hz : zsz H (h + 49) := hz
        refine z_putF (v := .ref (h + 40)) (ty := (.object "LimbCurves$Residues")) hx hb hts in_X5_init_X5 tyX5 tyX5_ok nmX5 hown hK hM hS hz (ho) rfl 4 (by decide) (hts (.fieldLink RX5 42 "LimbCurves" "order" "LLimbCurves$Residues;") (by decide +kernel)) (fun _ h9 => h9) rfl hnm rfl (by decide +kernel) rfl rfl (Nat.le_of_ble_eq_true rfl) dX5_init_100 (fun H locs hM hS hz => ?_)
        have hM : xW D vwCl N0 (xset M9 h (xO 4 [.int (nI L), .ref (h + 1), .ref (h + 6), .ref (h + 31), .ref (h + 40), .null, .null, .null, .null, .null, .int 0, .int 0, .int 0])) H := hM
        obtain ⟨M9, eM9⟩ : ∃ q, xset M9 h (xO 4 [.int (nI L), .ref (h + 1), .ref (h + 6), .ref (h + 31), .ref (h + 40), .null, .null, .null, .null, .null, .int 0, .int 0, .int 0]) = q := ⟨_, rfl⟩
        rw [eM9] at hM
        replace hpar := xkeep eM9 (by omega) hpar
        replace hrow : ∀ i9, i9 < 4 → M9 (h + 2 + i9) = some (xI (kA 0) L (fun _ => 0)) := fun i9 hi9 => xkeep eM9 (by omega) (hrow i9 hi9)
        replace hpts := xkeep eM9 (by omega) hpts
        replace hp1 : ∀ j, j < 8 → M9 (h + 7 + 3 * j) = some (xO 1 [.ref (h + 7 + 3 * j + 1), .ref (h + 7 + 3 * j + 1 + 1), .int (nI 1)]) := fun j hi9 => xkeep eM9 (by omega) (hp1 j hi9)
        replace hp2 : ∀ j, j < 8 → M9 (h + 7 + 3 * j + 1) = some (xI (kA 0) L (fun _ => 0)) := fun j hi9 => xkeep eM9 (by omega) (hp2 j hi9)
        replace hp3 : ∀ j, j < 8 → M9 (h + 7 + 3 * j + 1 + 1) = some (xI (kA 0) L (fun _ => 0)) := fun j hi9 => xkeep eM9 (by omega) (hp3 j hi9)
        replace hscs := xkeep eM9 (by omega) hscs
        replace hsrow : ∀ i9, i9 < 8 → M9 (h + 32 + i9) = some (xI (kA 0) L (fun _ => 0)) := fun i9 hi9 => xkeep eM9 (by omega) (hsrow i9 hi9)
        replace ro := xkeep eM9 (by omega) ro
        replace ro1 := xkeep eM9 (by omega) ro1
        replace ro2 := xkeep eM9 (by omega) ro2
        replace ro3 := xkeep eM9 (by omega) ro3
        replace ro4 := xkeep eM9 (by omega) ro4
        replace ro5 := xkeep eM9 (by omega) ro5
        replace ro6 := xkeep eM9 (by omega) ro6
        replace ro7 := xkeep eM9 (by omega) ro7
        replace ro8 := xkeep eM9 (by omega) ro8
        replace hfr : ∀ b, (b < h) → M9 b = M b := fun b hb9 => xkeep eM9 (by omega) (hfr b hb9)
        replace ho := xself eM9
        clear eM9
        refine r_new (ci := 2) (fs := [.null, .null, .null, .null, .null, .null, .null, .null, .int 0, .int 0]) C hM hS hz in_X5_init_X3 tyX3 tyX3_ok (hts (.classLink RX5 39 RX3) (by decide +kernel)) (hts (.instantiable RX3 10) (by decide +kernel)) (hts (.initialized RX3) (by decide +kernel)) rfl (fun j hj => by match j, hj with | 0, _ => rfl | 1, _ => rfl | 2, _ => rfl | 3, _ => rfl | 4, _ => rfl | 5, _ => rfl | 6, _ => rfl | 7, _ => rfl | 8, _ => rfl | 9, _ => rfl | j + 10, h => omega) (by show _ ≤ 80; omega) (by show _ ≤ 700; omega) dX5_init_103 (fun H hM hS hz => ?_)
        obtain ⟨M9, eM9⟩ : ∃ q, xset M9 (h + 49) (xO 2 [.null, .null, .null, .null, .null, .null, .null, .null, .int 0, .int 0]) = q := ⟨_, rfl⟩
        rw [eM9] at hM
        replace ho := xkeep eM9 (by omega) ho
        replace hpar := xkeep eM9 (by omega) hpar
        replace hrow : ∀ i9, i9 < 4 → M9 (h + 2 + i9) = some (xI (kA 0) L (fun _ => 0)) := fun i9 hi9 => xkeep eM9 (by omega) (hrow i9 hi9)
        replace hpts := xkeep eM9 (by omega) hpts
        replace hp1 : ∀ j, j < 8 → M9 (h + 7 + 3 * j) = some (xO 1 [.ref (h + 7 + 3 * j + 1), .ref (h + 7 + 3 * j + 1 + 1), .int (nI 1)]) := fun j hi9 => xkeep eM9 (by omega) (hp1 j hi9)
        replace hp2 : ∀ j, j < 8 → M9 (h + 7 + 3 * j + 1) = some (xI (kA 0) L (fun _ => 0)) := fun j hi9 => xkeep eM9 (by omega) (hp2 j hi9)
        replace hp3 : ∀ j, j < 8 → M9 (h + 7 + 3 * j + 1 + 1) = some (xI (kA 0) L (fun _ => 0)) := fun j hi9 => xkeep eM9 (by omega) (hp3 j hi9)
        replace hscs := xkeep eM9 (by omega) hscs
        replace hsrow : ∀ i9, i9 < 8 → M9 (h + 32 + i9) = some (xI (kA 0) L (fun _ => 0)) := fun i9 hi9 => xkeep eM9 (by omega) (hsrow i9 hi9)
        replace ro := xkeep eM9 (by omega) ro
        replace ro1 := xkeep eM9 (by omega) ro1
        replace ro2 := xkeep eM9 (by omega) ro2
        replace ro3 := xkeep eM9 (by omega) ro3
        replace ro4 := xkeep eM9 (by omega) ro4
        replace ro5 := xkeep eM9 (by omega) ro5
        replace ro6 := xkeep eM9 (by omega) ro6
        replace ro7 := xkeep eM9 (by omega) ro7
        replace ro8 := xkeep eM9 (by omega) ro8
        replace hfr : ∀ b, (b < h) → M9 b = M b := fun b hb9 => xkeep eM9 (by omega) (hfr b hb9)
        have hfi := xself eM9
        clear eM9
        replace hz : zsz H (h + 50) := hz
        refine lv_dup hx hb dX5_init_106 rfl ?_
        refine lv_aload_n hx hb dX5_init_107 rfl (lv_at hl 1 rfl) ?_
        refine x_get (v := .int (nI L)) hx hb hts in_X5_init_X5 hown hK hM (ho) rfl 0 (by decide) (hts (.fieldLink RX5 18 "LimbCurves" "limbs" "I") (by decide +kernel)) (fun _ h9 => h9) rfl dX5_init_108 ?_
        refine r_Ivz (As := [.int (nI L)]) (rest := [.ref (h + 49)]) C hM hS hz (c_initRes l D kA N0 (h + 50) (h + 49) L M9 hfi (by omega) hL9) gX5_init_X3_init (hts (.initialized RX3) (by decide +kernel)) (hts (.methodLink RX5 41 yX3_init) (by decide +kernel)) (hts (.instanceMethod yX3_init) (by decide +kernel)) rfl rfl rfl rfl ⟨by decide +kernel, by decide +kernel, (by decide +kernel : (parseMethodDescriptor yX3_init.desc).map (fun d => d.parameters.length) = some 1)⟩ ⟨Nat.le_of_ble_eq_true rfl, Nat.le_of_ble_eq_true rfl⟩ hl.1 rfl (Nat.le_of_ble_eq_true rfl) dX5_init_111 ⟨(by show _ ≤ 80; omega), (by show _ ≤ 700; omega)⟩ (fun M9 H locs hp hM hS hz => ?_)
        obtain ⟨fo, fo1, fo2, fo3, fo4, fo5, fo6, fo7, fo8, hpf⟩ := hp
        replace ho := hpf _ (by omega) |>.trans ho
        replace hpar := hpf _ (by omega) |>.trans hpar
        replace hrow : ∀ i9, i9 < 4 → M9 (h + 2 + i9) = some (xI (kA 0) L (fun _ => 0)) := fun i9 hi9 => hpf _ (by omega) |>.trans (hrow i9 hi9)
        replace hpts := hpf _ (by omega) |>.trans hpts
        replace hp1 : ∀ j, j < 8 → M9 (h + 7 + 3 * j) = some (xO 1 [.ref (h + 7 + 3 * j + 1), .ref (h + 7 + 3 * j + 1 + 1), .int (nI 1)]) := fun j hi9 => hpf _ (by omega) |>.trans (hp1 j hi9)
        replace hp2 : ∀ j, j < 8 → M9 (h + 7 + 3 * j + 1) = some (xI (kA 0) L (fun _ => 0)) := fun j hi9 => hpf _ (by omega) |>.trans (hp2 j hi9)
        replace hp3 : ∀ j, j < 8 → M9 (h + 7 + 3 * j + 1 + 1) = some (xI (kA 0) L (fun _ => 0)) := fun j hi9 => hpf _ (by omega) |>.trans (hp3 j hi9)
        replace hscs := hpf _ (by omega) |>.trans hscs
        replace hsrow : ∀ i9, i9 < 8 → M9 (h + 32 + i9) = some (xI (kA 0) L (fun _ => 0)) := fun i9 hi9 => hpf _ (by omega) |>.trans (hsrow i9 hi9)
        replace ro := hpf _ (by omega) |>.trans ro
        replace ro1 := hpf _ (by omega) |>.trans ro1
        replace ro2 := hpf _ (by omega) |>.trans ro2
        replace ro3 := hpf _ (by omega) |>.trans ro3
        replace ro4 := hpf _ (by omega) |>.trans ro4
        replace ro5 := hpf _ (by omega) |>.trans ro5
        replace ro6 := hpf _ (by omega) |>.trans ro6
        replace ro7 := hpf _ (by omega) |>.trans ro7
        replace ro8 := hpf _ (by omega) |>.trans ro8
        replace hfr : ∀ b, (b < h) → M9 b = M b := fun b hb9 => hpf _ (by omega) |>.trans (hfr b hb9)
        replace hz : zsz H (h + 58) := hz
        refine lv_astore_n (lv' := [(2, .ref (h + 49)), (0, .ref h), (1, .int x)]) hx hb dX5_init_114 rfl hl (by decide) rfl (fun ls hl => ?_)
        refine lv_aload_n hx hb dX5_init_115 rfl (lv_at hl 1 rfl) ?_
        refine r_new (ci := 0) (fs := [.null, .null, .null, .null, .null, .null]) C hM hS hz in_X5_init_X0 tyX0 tyX0_ok (hts (.classLink RX5 46 RX0) (by decide +kernel)) (hts (.instantiable RX0 6) (by decide +kernel)) (hts (.initialized RX0) (by decide +kernel)) rfl (fun j hj => by match j, hj with | 0, _ => rfl | 1, _ => rfl | 2, _ => rfl | 3, _ => rfl | 4, _ => rfl | 5, _ => rfl | j + 6, h => omega) (by show _ ≤ 80; omega) (by show _ ≤ 700; omega) dX5_init_116 (fun H hM hS hz => ?_)
        obtain ⟨M9, eM9⟩ : ∃ q, xset M9 (h + 58) (xO 0 [.null, .null, .null, .null, .null, .null]) = q := ⟨_, rfl⟩
        rw [eM9] at hM
        replace ho := xkeep eM9 (by omega) ho
        replace hpar := xkeep eM9 (by omega) hpar
        replace hrow : ∀ i9, i9 < 4 → M9 (h + 2 + i9) = some (xI (kA 0) L (fun _ => 0)) := fun i9 hi9 => xkeep eM9 (by omega) (hrow i9 hi9)
        replace hpts := xkeep eM9 (by omega) hpts
        replace hp1 : ∀ j, j < 8 → M9 (h + 7 + 3 * j) = some (xO 1 [.ref (h + 7 + 3 * j + 1), .ref (h + 7 + 3 * j + 1 + 1), .int (nI 1)]) := fun j hi9 => xkeep eM9 (by omega) (hp1 j hi9)
        replace hp2 : ∀ j, j < 8 → M9 (h + 7 + 3 * j + 1) = some (xI (kA 0) L (fun _ => 0)) := fun j hi9 => xkeep eM9 (by omega) (hp2 j hi9)
        replace hp3 : ∀ j, j < 8 → M9 (h + 7 + 3 * j + 1 + 1) = some (xI (kA 0) L (fun _ => 0)) := fun j hi9 => xkeep eM9 (by omega) (hp3 j hi9)
        replace hscs := xkeep eM9 (by omega) hscs
        replace hsrow : ∀ i9, i9 < 8 → M9 (h + 32 + i9) = some (xI (kA 0) L (fun _ => 0)) := fun i9 hi9 => xkeep eM9 (by omega) (hsrow i9 hi9)
        replace ro := xkeep eM9 (by omega) ro
        replace ro1 := xkeep eM9 (by omega) ro1
        replace ro2 := xkeep eM9 (by omega) ro2
        replace ro3 := xkeep eM9 (by omega) ro3
        replace ro4 := xkeep eM9 (by omega) ro4
        replace ro5 := xkeep eM9 (by omega) ro5
        replace ro6 := xkeep eM9 (by omega) ro6
        replace ro7 := xkeep eM9 (by omega) ro7
        replace ro8 := xkeep eM9 (by omega) ro8
        replace fo := xkeep eM9 (by omega) fo
        replace fo1 := xkeep eM9 (by omega) fo1
        replace fo2 := xkeep eM9 (by omega) fo2
        replace fo3 := xkeep eM9 (by omega) fo3
        replace fo4 := xkeep eM9 (by omega) fo4
        replace fo5 := xkeep eM9 (by omega) fo5
        replace fo6 := xkeep eM9 (by omega) fo6
        replace fo7 := xkeep eM9 (by omega) fo7
        replace fo8 := xkeep eM9 (by omega) fo8
        replace hfr : ∀ b, (b < h) → M9 b = M b := fun b hb9 => xkeep eM9 (by omega) (hfr b hb9)
        have hcv := xself eM9
        clear eM9
        replace hz : zsz H (h + 59) := hz
        refine lv_dup hx hb dX5_init_119 rfl ?_
        refine lv_aload_n hx hb dX5_init_120 rfl (lv_at hl 1 rfl) ?_
        refine x_get (v := .ref (h + 1)) hx hb hts in_X5_init_X5 hown hK hM (ho) rfl 1 (by decide) (hts (.fieldLink RX5 24 "LimbCurves" "parameters" "[[I") (by decide +kernel)) (fun _ h9 => h9) rfl dX5_init_121 ?_
        refine lv_aload_n hx hb dX5_init_124 rfl (lv_at hl 0 rfl) ?_
        refine r_Ivz (As := [.ref (h + 1), .ref (h + 49)]) (rest := [.ref (h + 58), .ref h]) C hM hS hz (c_initCv l D kA N0 (h + 59) (h + 58) L (h + 1) (h + 1 + 1 + 0) (h + 1 + 1 + 1) (h + 1 + 1 + 2) (h + 49) M9 _ _ hcv (by omega) hL9 hpar (by omega) (by omega) rfl rfl rfl (hrow 0 (by omega)) (by omega) (by omega)) gX5_init_X0_init (hts (.initialized RX0) (by decide +kernel)) (hts (.methodLink RX5 48 yX0_init) (by decide +kernel)) (hts (.instanceMethod yX0_init) (by decide +kernel)) rfl rfl rfl rfl ⟨by decide +kernel, by decide +kernel, (by decide +kernel : (parseMethodDescriptor yX0_init.desc).map (fun d => d.parameters.length) = some 2)⟩ ⟨Nat.le_of_ble_eq_true rfl, Nat.le_of_ble_eq_true rfl⟩ hl.1 rfl (Nat.le_of_ble_eq_true rfl) dX5_init_125 ⟨(by show _ ≤ 80; omega), (by show _ ≤ 700; omega)⟩ (fun M9 H locs hp hM hS hz => ?_)
        obtain ⟨cv, cv1, cv2, hpf⟩ := hp
        replace ho := hpf _ (by omega) |>.trans ho
        replace hpar := hpf _ (by omega) |>.trans hpar
        replace hrow : ∀ i9, i9 < 4 → M9 (h + 2 + i9) = some (xI (kA 0) L (fun _ => 0)) := fun i9 hi9 => hpf _ (by omega) |>.trans (hrow i9 hi9)
        replace hpts := hpf _ (by omega) |>.trans hpts
        replace hp1 : ∀ j, j < 8 → M9 (h + 7 + 3 * j) = some (xO 1 [.ref (h + 7 + 3 * j + 1), .ref (h + 7 + 3 * j + 1 + 1), .int (nI 1)]) := fun j hi9 => hpf _ (by omega) |>.trans (hp1 j hi9)
        replace hp2 : ∀ j, j < 8 → M9 (h + 7 + 3 * j + 1) = some (xI (kA 0) L (fun _ => 0)) := fun j hi9 => hpf _ (by omega) |>.trans (hp2 j hi9)
        replace hp3 : ∀ j, j < 8 → M9 (h + 7 + 3 * j + 1 + 1) = some (xI (kA 0) L (fun _ => 0)) := fun j hi9 => hpf _ (by omega) |>.trans (hp3 j hi9)
        replace hscs := hpf _ (by omega) |>.trans hscs
        replace hsrow : ∀ i9, i9 < 8 → M9 (h + 32 + i9) = some (xI (kA 0) L (fun _ => 0)) := fun i9 hi9 => hpf _ (by omega) |>.trans (hsrow i9 hi9)
        replace ro := hpf _ (by omega) |>.trans ro
        replace ro1 := hpf _ (by omega) |>.trans ro1
        replace ro2 := hpf _ (by omega) |>.trans ro2
        replace ro3 := hpf _ (by omega) |>.trans ro3
        replace ro4 := hpf _ (by omega) |>.trans ro4
        replace ro5 := hpf _ (by omega) |>.trans ro5
        replace ro6 := hpf _ (by omega) |>.trans ro6
        replace ro7 := hpf _ (by omega) |>.trans ro7
        replace ro8 := hpf _ (by omega) |>.trans ro8
        replace fo := hpf _ (by omega) |>.trans fo
        replace fo1 := hpf _ (by omega) |>.trans fo1
        replace fo2 := hpf _ (by omega) |>.trans fo2
        replace fo3 := hpf _ (by omega) |>.trans fo3
        replace fo4 := hpf _ (by omega) |>.trans fo4
        replace fo5 := hpf _ (by omega) |>.trans fo5
        replace fo6 := hpf _ (by omega) |>.trans fo6
        replace fo7 := hpf _ (by omega) |>.trans fo7
        replace fo8 := hpf _ (by omega) |>.trans fo8
        replace hfr : ∀ b, (b < h) → M9 b = M b := fun b hb9 => hpf _ (by omega) |>.trans (hfr b hb9)
        replace hz : zsz H (h + 61) := hz
        refine z_putF (v := .ref (h + 58)) (ty := (.object "LimbCurves$Curve")) hx hb hts in_X5_init_X5 tyX5 tyX5_ok nmX5 hown hK hM hS hz (ho) rfl 5 (by decide) (hts (.fieldLink RX5 51 "LimbCurves" "curve" "LLimbCurves$Curve;") (by decide +kernel)) (fun _ h9 => h9) rfl hnm rfl (by decide +kernel) rfl rfl (Nat.le_of_ble_eq_true rfl) dX5_init_128 (fun H locs hM hS hz => ?_)
        have hM : xW D vwCl N0 (xset M9 h (xO 4 [.int (nI L), .ref (h + 1), .ref (h + 6), .ref (h + 31), .ref (h + 40), .ref (h + 58), .null, .null, .null, .null, .int 0, .int 0, .int 0])) H := hM
        obtain ⟨M9, eM9⟩ : ∃ q, xset M9 h (xO 4 [.int (nI L), .ref (h + 1), .ref (h + 6), .ref (h + 31), .ref (h + 40), .ref (h + 58), .null, .null, .null, .null, .int 0, .int 0, .int 0]) = q := ⟨_, rfl⟩
        rw [eM9] at hM
        replace hpar := xkeep eM9 (by omega) hpar
        replace hrow : ∀ i9, i9 < 4 → M9 (h + 2 + i9) = some (xI (kA 0) L (fun _ => 0)) := fun i9 hi9 => xkeep eM9 (by omega) (hrow i9 hi9)
        replace hpts := xkeep eM9 (by omega) hpts
        replace hp1 : ∀ j, j < 8 → M9 (h + 7 + 3 * j) = some (xO 1 [.ref (h + 7 + 3 * j + 1), .ref (h + 7 + 3 * j + 1 + 1), .int (nI 1)]) := fun j hi9 => xkeep eM9 (by omega) (hp1 j hi9)
        replace hp2 : ∀ j, j < 8 → M9 (h + 7 + 3 * j + 1) = some (xI (kA 0) L (fun _ => 0)) := fun j hi9 => xkeep eM9 (by omega) (hp2 j hi9)
        replace hp3 : ∀ j, j < 8 → M9 (h + 7 + 3 * j + 1 + 1) = some (xI (kA 0) L (fun _ => 0)) := fun j hi9 => xkeep eM9 (by omega) (hp3 j hi9)
        replace hscs := xkeep eM9 (by omega) hscs
        replace hsrow : ∀ i9, i9 < 8 → M9 (h + 32 + i9) = some (xI (kA 0) L (fun _ => 0)) := fun i9 hi9 => xkeep eM9 (by omega) (hsrow i9 hi9)
        replace ro := xkeep eM9 (by omega) ro
        replace ro1 := xkeep eM9 (by omega) ro1
        replace ro2 := xkeep eM9 (by omega) ro2
        replace ro3 := xkeep eM9 (by omega) ro3
        replace ro4 := xkeep eM9 (by omega) ro4
        replace ro5 := xkeep eM9 (by omega) ro5
        replace ro6 := xkeep eM9 (by omega) ro6
        replace ro7 := xkeep eM9 (by omega) ro7
        replace ro8 := xkeep eM9 (by omega) ro8
        replace fo := xkeep eM9 (by omega) fo
        replace fo1 := xkeep eM9 (by omega) fo1
        replace fo2 := xkeep eM9 (by omega) fo2
        replace fo3 := xkeep eM9 (by omega) fo3
        replace fo4 := xkeep eM9 (by omega) fo4
        replace fo5 := xkeep eM9 (by omega) fo5
        replace fo6 := xkeep eM9 (by omega) fo6
        replace fo7 := xkeep eM9 (by omega) fo7
        replace fo8 := xkeep eM9 (by omega) fo8
        replace cv := xkeep eM9 (by omega) cv
        replace cv1 := xkeep eM9 (by omega) cv1
        replace cv2 := xkeep eM9 (by omega) cv2
        replace hfr : ∀ b, (b < h) → M9 b = M b := fun b hb9 => xkeep eM9 (by omega) (hfr b hb9)
        replace ho := xself eM9
        clear eM9
        refine lv_aload_n hx hb dX5_init_131 rfl (lv_at hl 1 rfl) ?_
        refine r_new (ci := 3) (fs := [.null, .null, .null, .null, .null, .int 0, .null, .null, .null, .null, .null, .null]) C hM hS hz in_X5_init_X4 tyX4 tyX4_ok (hts (.classLink RX5 55 RX4) (by decide +kernel)) (hts (.instantiable RX4 12) (by decide +kernel)) (hts (.initialized RX4) (by decide +kernel)) rfl (fun j hj => by match j, hj with | 0, _ => rfl | 1, _ => rfl | 2, _ => rfl | 3, _ => rfl | 4, _ => rfl | 5, _ => rfl | 6, _ => rfl | 7, _ => rfl | 8, _ => rfl | 9, _ => rfl | 10, _ => rfl | 11, _ => rfl | j + 12, h => omega) (by show _ ≤ 80; omega) (by show _ ≤ 700; omega) dX5_init_132 (fun H hM hS hz => ?_)
        obtain ⟨M9, eM9⟩ : ∃ q, xset M9 (h + 61) (xO 3 [.null, .null, .null, .null, .null, .int 0, .null, .null, .null, .null, .null, .null]) = q := ⟨_, rfl⟩
        rw [eM9] at hM
        replace ho := xkeep eM9 (by omega) ho
        replace hpar := xkeep eM9 (by omega) hpar
        replace hrow : ∀ i9, i9 < 4 → M9 (h + 2 + i9) = some (xI (kA 0) L (fun _ => 0)) := fun i9 hi9 => xkeep eM9 (by omega) (hrow i9 hi9)
        replace hpts := xkeep eM9 (by omega) hpts
        replace hp1 : ∀ j, j < 8 → M9 (h + 7 + 3 * j) = some (xO 1 [.ref (h + 7 + 3 * j + 1), .ref (h + 7 + 3 * j + 1 + 1), .int (nI 1)]) := fun j hi9 => xkeep eM9 (by omega) (hp1 j hi9)
        replace hp2 : ∀ j, j < 8 → M9 (h + 7 + 3 * j + 1) = some (xI (kA 0) L (fun _ => 0)) := fun j hi9 => xkeep eM9 (by omega) (hp2 j hi9)
        replace hp3 : ∀ j, j < 8 → M9 (h + 7 + 3 * j + 1 + 1) = some (xI (kA 0) L (fun _ => 0)) := fun j hi9 => xkeep eM9 (by omega) (hp3 j hi9)
        replace hscs := xkeep eM9 (by omega) hscs
        replace hsrow : ∀ i9, i9 < 8 → M9 (h + 32 + i9) = some (xI (kA 0) L (fun _ => 0)) := fun i9 hi9 => xkeep eM9 (by omega) (hsrow i9 hi9)
        replace ro := xkeep eM9 (by omega) ro
        replace ro1 := xkeep eM9 (by omega) ro1
        replace ro2 := xkeep eM9 (by omega) ro2
        replace ro3 := xkeep eM9 (by omega) ro3
        replace ro4 := xkeep eM9 (by omega) ro4
        replace ro5 := xkeep eM9 (by omega) ro5
        replace ro6 := xkeep eM9 (by omega) ro6
        replace ro7 := xkeep eM9 (by omega) ro7
        replace ro8 := xkeep eM9 (by omega) ro8
        replace fo := xkeep eM9 (by omega) fo
        replace fo1 := xkeep eM9 (by omega) fo1
        replace fo2 := xkeep eM9 (by omega) fo2
        replace fo3 := xkeep eM9 (by omega) fo3
        replace fo4 := xkeep eM9 (by omega) fo4
        replace fo5 := xkeep eM9 (by omega) fo5
        replace fo6 := xkeep eM9 (by omega) fo6
        replace fo7 := xkeep eM9 (by omega) fo7
        replace fo8 := xkeep eM9 (by omega) fo8
        replace cv := xkeep eM9 (by omega) cv
        replace cv1 := xkeep eM9 (by omega) cv1
        replace cv2 := xkeep eM9 (by omega) cv2
        replace hfr : ∀ b, (b < h) → M9 b = M b := fun b hb9 => xkeep eM9 (by omega) (hfr b hb9)
        have hru := xself eM9
        clear eM9
        replace hz : zsz H (h + 62) := hz
        refine lv_dup hx hb dX5_init_135 rfl ?_
        refine lv_aload_n hx hb dX5_init_136 rfl (lv_at hl 1 rfl) ?_
        refine x_get (v := .int (nI L)) hx hb hts in_X5_init_X5 hown hK hM (ho) rfl 0 (by decide) (hts (.fieldLink RX5 18 "LimbCurves" "limbs" "I") (by decide +kernel)) (fun _ h9 => h9) rfl dX5_init_137 ?_
        refine lv_aload_n hx hb dX5_init_140 rfl (lv_at hl 0 rfl) ?_
        refine lv_aload_n hx hb dX5_init_141 rfl (lv_at hl 1 rfl) ?_
        refine x_get (v := .ref (h + 1)) hx hb hts in_X5_init_X5 hown hK hM (ho) rfl 1 (by decide) (hts (.fieldLink RX5 24 "LimbCurves" "parameters" "[[I") (by decide +kernel)) (fun _ h9 => h9) rfl dX5_init_142 ?_
        refine lv_iconst (v := nI 1) hx hb dX5_init_145 (by decide) ?_
        refine r_aald (t0 := 3) C hM (hpar) rfl rfl (by omega) (by omega) (rfl) dX5_init_146 ?_
        refine r_Ivz (As := [.int (nI L), .ref (h + 49), .ref (h + 1 + 1 + 1)]) (rest := [.ref (h + 61), .ref h]) C hM hS hz (c_initRun l D kA N0 (h + 62) (h + 61) L (h + 49) (h + 1 + 1 + 1) M9 hru (by omega) hL9) gX5_init_X4_init (hts (.initialized RX4) (by decide +kernel)) (hts (.methodLink RX5 57 yX4_init) (by decide +kernel)) (hts (.instanceMethod yX4_init) (by decide +kernel)) rfl rfl rfl rfl ⟨by decide +kernel, by decide +kernel, (by decide +kernel : (parseMethodDescriptor yX4_init.desc).map (fun d => d.parameters.length) = some 3)⟩ ⟨Nat.le_of_ble_eq_true rfl, Nat.le_of_ble_eq_true rfl⟩ hl.1 rfl (Nat.le_of_ble_eq_true rfl) dX5_init_147 ⟨(by show _ ≤ 80; omega), (by show _ ≤ 700; omega)⟩ (fun M9 H locs hp hM hS hz => ?_)
        obtain ⟨ru, ru1, hpf⟩ := hp
        replace ho := hpf _ (by omega) |>.trans ho
        replace hpar := hpf _ (by omega) |>.trans hpar
        replace hrow : ∀ i9, i9 < 4 → M9 (h + 2 + i9) = some (xI (kA 0) L (fun _ => 0)) := fun i9 hi9 => hpf _ (by omega) |>.trans (hrow i9 hi9)
        replace hpts := hpf _ (by omega) |>.trans hpts
        replace hp1 : ∀ j, j < 8 → M9 (h + 7 + 3 * j) = some (xO 1 [.ref (h + 7 + 3 * j + 1), .ref (h + 7 + 3 * j + 1 + 1), .int (nI 1)]) := fun j hi9 => hpf _ (by omega) |>.trans (hp1 j hi9)
        replace hp2 : ∀ j, j < 8 → M9 (h + 7 + 3 * j + 1) = some (xI (kA 0) L (fun _ => 0)) := fun j hi9 => hpf _ (by omega) |>.trans (hp2 j hi9)
        replace hp3 : ∀ j, j < 8 → M9 (h + 7 + 3 * j + 1 + 1) = some (xI (kA 0) L (fun _ => 0)) := fun j hi9 => hpf _ (by omega) |>.trans (hp3 j hi9)
        replace hscs := hpf _ (by omega) |>.trans hscs
        replace hsrow : ∀ i9, i9 < 8 → M9 (h + 32 + i9) = some (xI (kA 0) L (fun _ => 0)) := fun i9 hi9 => hpf _ (by omega) |>.trans (hsrow i9 hi9)
        replace ro := hpf _ (by omega) |>.trans ro
        replace ro1 := hpf _ (by omega) |>.trans ro1
        replace ro2 := hpf _ (by omega) |>.trans ro2
        replace ro3 := hpf _ (by omega) |>.trans ro3
        replace ro4 := hpf _ (by omega) |>.trans ro4
        replace ro5 := hpf _ (by omega) |>.trans ro5
        replace ro6 := hpf _ (by omega) |>.trans ro6
        replace ro7 := hpf _ (by omega) |>.trans ro7
        replace ro8 := hpf _ (by omega) |>.trans ro8
        replace fo := hpf _ (by omega) |>.trans fo
        replace fo1 := hpf _ (by omega) |>.trans fo1
        replace fo2 := hpf _ (by omega) |>.trans fo2
        replace fo3 := hpf _ (by omega) |>.trans fo3
        replace fo4 := hpf _ (by omega) |>.trans fo4
        replace fo5 := hpf _ (by omega) |>.trans fo5
        replace fo6 := hpf _ (by omega) |>.trans fo6
        replace fo7 := hpf _ (by omega) |>.trans fo7
        replace fo8 := hpf _ (by omega) |>.trans fo8
        replace cv := hpf _ (by omega) |>.trans cv
        replace cv1 := hpf _ (by omega) |>.trans cv1
        replace cv2 := hpf _ (by omega) |>.trans cv2
        replace hfr : ∀ b, (b < h) → M9 b = M b := fun b hb9 => hpf _ (by omega) |>.trans (hfr b hb9)
        replace hz : zsz H (h + 71) := hz
        refine z_putF (v := .ref (h + 61)) (ty := (.object "LimbCurves$RunningSum")) hx hb hts in_X5_init_X5 tyX5 tyX5_ok nmX5 hown hK hM hS hz (ho) rfl 6 (by decide) (hts (.fieldLink RX5 60 "LimbCurves" "running" "LLimbCurves$RunningSum;") (by decide +kernel)) (fun _ h9 => h9) rfl hnm rfl (by decide +kernel) rfl rfl (Nat.le_of_ble_eq_true rfl) dX5_init_150 (fun H locs hM hS hz => ?_)
        have hM : xW D vwCl N0 (xset M9 h (xO 4 [.int (nI L), .ref (h + 1), .ref (h + 6), .ref (h + 31), .ref (h + 40), .ref (h + 58), .ref (h + 61), .null, .null, .null, .int 0, .int 0, .int 0])) H := hM
        obtain ⟨M9, eM9⟩ : ∃ q, xset M9 h (xO 4 [.int (nI L), .ref (h + 1), .ref (h + 6), .ref (h + 31), .ref (h + 40), .ref (h + 58), .ref (h + 61), .null, .null, .null, .int 0, .int 0, .int 0]) = q := ⟨_, rfl⟩
        rw [eM9] at hM
        replace hpar := xkeep eM9 (by omega) hpar
        replace hrow : ∀ i9, i9 < 4 → M9 (h + 2 + i9) = some (xI (kA 0) L (fun _ => 0)) := fun i9 hi9 => xkeep eM9 (by omega) (hrow i9 hi9)
        replace hpts := xkeep eM9 (by omega) hpts
        replace hp1 : ∀ j, j < 8 → M9 (h + 7 + 3 * j) = some (xO 1 [.ref (h + 7 + 3 * j + 1), .ref (h + 7 + 3 * j + 1 + 1), .int (nI 1)]) := fun j hi9 => xkeep eM9 (by omega) (hp1 j hi9)
        replace hp2 : ∀ j, j < 8 → M9 (h + 7 + 3 * j + 1) = some (xI (kA 0) L (fun _ => 0)) := fun j hi9 => xkeep eM9 (by omega) (hp2 j hi9)
        replace hp3 : ∀ j, j < 8 → M9 (h + 7 + 3 * j + 1 + 1) = some (xI (kA 0) L (fun _ => 0)) := fun j hi9 => xkeep eM9 (by omega) (hp3 j hi9)
        replace hscs := xkeep eM9 (by omega) hscs
        replace hsrow : ∀ i9, i9 < 8 → M9 (h + 32 + i9) = some (xI (kA 0) L (fun _ => 0)) := fun i9 hi9 => xkeep eM9 (by omega) (hsrow i9 hi9)
        replace ro := xkeep eM9 (by omega) ro
        replace ro1 := xkeep eM9 (by omega) ro1
        replace ro2 := xkeep eM9 (by omega) ro2
        replace ro3 := xkeep eM9 (by omega) ro3
        replace ro4 := xkeep eM9 (by omega) ro4
        replace ro5 := xkeep eM9 (by omega) ro5
        replace ro6 := xkeep eM9 (by omega) ro6
        replace ro7 := xkeep eM9 (by omega) ro7
        replace ro8 := xkeep eM9 (by omega) ro8
        replace fo := xkeep eM9 (by omega) fo
        replace fo1 := xkeep eM9 (by omega) fo1
        replace fo2 := xkeep eM9 (by omega) fo2
        replace fo3 := xkeep eM9 (by omega) fo3
        replace fo4 := xkeep eM9 (by omega) fo4
        replace fo5 := xkeep eM9 (by omega) fo5
        replace fo6 := xkeep eM9 (by omega) fo6
        replace fo7 := xkeep eM9 (by omega) fo7
        replace fo8 := xkeep eM9 (by omega) fo8
        replace cv := xkeep eM9 (by omega) cv
        replace cv1 := xkeep eM9 (by omega) cv1
        replace cv2 := xkeep eM9 (by omega) cv2
        replace ru := xkeep eM9 (by omega) ru
        replace ru1 : ∀ j, j < 9 → M9 (h + 62 + j) = some (xI (kA 0) L (fun _ => 0)) := fun j hi9 => xkeep eM9 (by omega) (ru1 j hi9)
        replace hfr : ∀ b, (b < h) → M9 b = M b := fun b hb9 => xkeep eM9 (by omega) (hfr b hb9)
        replace ho := xself eM9
        clear eM9
        refine lv_aload_n hx hb dX5_init_153 rfl (lv_at hl 1 rfl) ?_
        refine lv_aload_n hx hb dX5_init_154 rfl (lv_at hl 1 rfl) ?_
        refine x_get (v := .int (nI L)) hx hb hts in_X5_init_X5 hown hK hM (ho) rfl 0 (by decide) (hts (.fieldLink RX5 18 "LimbCurves" "limbs" "I") (by decide +kernel)) (fun _ h9 => h9) rfl dX5_init_155 ?_
        refine r_newi C hM hS hz rfl (hts (.arrayClass .int) (by decide +kernel)) (by omega) (by show _ ≤ 80; omega) (by show _ ≤ 700; omega) dX5_init_158 (fun H hM hS hz => ?_)
        obtain ⟨M9, eM9⟩ : ∃ q, xset M9 (h + 71) (xI (kA 0) L (fun _ => 0)) = q := ⟨_, rfl⟩
        rw [eM9] at hM
        replace ho := xkeep eM9 (by omega) ho
        replace hpar := xkeep eM9 (by omega) hpar
        replace hrow : ∀ i9, i9 < 4 → M9 (h + 2 + i9) = some (xI (kA 0) L (fun _ => 0)) := fun i9 hi9 => xkeep eM9 (by omega) (hrow i9 hi9)
        replace hpts := xkeep eM9 (by omega) hpts
        replace hp1 : ∀ j, j < 8 → M9 (h + 7 + 3 * j) = some (xO 1 [.ref (h + 7 + 3 * j + 1), .ref (h + 7 + 3 * j + 1 + 1), .int (nI 1)]) := fun j hi9 => xkeep eM9 (by omega) (hp1 j hi9)
        replace hp2 : ∀ j, j < 8 → M9 (h + 7 + 3 * j + 1) = some (xI (kA 0) L (fun _ => 0)) := fun j hi9 => xkeep eM9 (by omega) (hp2 j hi9)
        replace hp3 : ∀ j, j < 8 → M9 (h + 7 + 3 * j + 1 + 1) = some (xI (kA 0) L (fun _ => 0)) := fun j hi9 => xkeep eM9 (by omega) (hp3 j hi9)
        replace hscs := xkeep eM9 (by omega) hscs
        replace hsrow : ∀ i9, i9 < 8 → M9 (h + 32 + i9) = some (xI (kA 0) L (fun _ => 0)) := fun i9 hi9 => xkeep eM9 (by omega) (hsrow i9 hi9)
        replace ro := xkeep eM9 (by omega) ro
        replace ro1 := xkeep eM9 (by omega) ro1
        replace ro2 := xkeep eM9 (by omega) ro2
        replace ro3 := xkeep eM9 (by omega) ro3
        replace ro4 := xkeep eM9 (by omega) ro4
        replace ro5 := xkeep eM9 (by omega) ro5
        replace ro6 := xkeep eM9 (by omega) ro6
        replace ro7 := xkeep eM9 (by omega) ro7
        replace ro8 := xkeep eM9 (by omega) ro8
        replace fo := xkeep eM9 (by omega) fo
        replace fo1 := xkeep eM9 (by omega) fo1
        replace fo2 := xkeep eM9 (by omega) fo2
        replace fo3 := xkeep eM9 (by omega) fo3
        replace fo4 := xkeep eM9 (by omega) fo4
        replace fo5 := xkeep eM9 (by omega) fo5
        replace fo6 := xkeep eM9 (by omega) fo6
        replace fo7 := xkeep eM9 (by omega) fo7
        replace fo8 := xkeep eM9 (by omega) fo8
        replace cv := xkeep eM9 (by omega) cv
        replace cv1 := xkeep eM9 (by omega) cv1
        replace cv2 := xkeep eM9 (by omega) cv2
        replace ru := xkeep eM9 (by omega) ru
        replace ru1 : ∀ j, j < 9 → M9 (h + 62 + j) = some (xI (kA 0) L (fun _ => 0)) := fun j hi9 => xkeep eM9 (by omega) (ru1 j hi9)
        replace hfr : ∀ b, (b < h) → M9 b = M b := fun b hb9 => xkeep eM9 (by omega) (hfr b hb9)
        have hle := xself eM9
        clear eM9
        replace hz : zsz H (h + 72) := hz
        refine z_putF (v := .ref (h + 71)) (ty := (.array .int)) hx hb hts in_X5_init_X5 tyX5 tyX5_ok nmX5 hown hK hM hS hz (ho) rfl 7 (by decide) (hts (.fieldLink RX5 64 "LimbCurves" "left" "[I") (by decide +kernel)) (fun _ h9 => h9) rfl hnm rfl (by decide +kernel) rfl rfl (Nat.le_of_ble_eq_true rfl) dX5_init_160 (fun H locs hM hS hz => ?_)
        have hM : xW D vwCl N0 (xset M9 h (xO 4 [.int (nI L), .ref (h + 1), .ref (h + 6), .ref (h + 31), .ref (h + 40), .ref (h + 58), .ref (h + 61), .ref (h + 71), .null, .null, .int 0, .int 0, .int 0])) H := hM
        obtain ⟨M9, eM9⟩ : ∃ q, xset M9 h (xO 4 [.int (nI L), .ref (h + 1), .ref (h + 6), .ref (h + 31), .ref (h + 40), .ref (h + 58), .ref (h + 61), .ref (h + 71), .null, .null, .int 0, .int 0, .int 0]) = q := ⟨_, rfl⟩
        rw [eM9] at hM
        replace hpar := xkeep eM9 (by omega) hpar
        replace hrow : ∀ i9, i9 < 4 → M9 (h + 2 + i9) = some (xI (kA 0) L (fun _ => 0)) := fun i9 hi9 => xkeep eM9 (by omega) (hrow i9 hi9)
        replace hpts := xkeep eM9 (by omega) hpts
        replace hp1 : ∀ j, j < 8 → M9 (h + 7 + 3 * j) = some (xO 1 [.ref (h + 7 + 3 * j + 1), .ref (h + 7 + 3 * j + 1 + 1), .int (nI 1)]) := fun j hi9 => xkeep eM9 (by omega) (hp1 j hi9)
        replace hp2 : ∀ j, j < 8 → M9 (h + 7 + 3 * j + 1) = some (xI (kA 0) L (fun _ => 0)) := fun j hi9 => xkeep eM9 (by omega) (hp2 j hi9)
        replace hp3 : ∀ j, j < 8 → M9 (h + 7 + 3 * j + 1 + 1) = some (xI (kA 0) L (fun _ => 0)) := fun j hi9 => xkeep eM9 (by omega) (hp3 j hi9)
        replace hscs := xkeep eM9 (by omega) hscs
        replace hsrow : ∀ i9, i9 < 8 → M9 (h + 32 + i9) = some (xI (kA 0) L (fun _ => 0)) := fun i9 hi9 => xkeep eM9 (by omega) (hsrow i9 hi9)
        replace ro := xkeep eM9 (by omega) ro
        replace ro1 := xkeep eM9 (by omega) ro1
        replace ro2 := xkeep eM9 (by omega) ro2
        replace ro3 := xkeep eM9 (by omega) ro3
        replace ro4 := xkeep eM9 (by omega) ro4
        replace ro5 := xkeep eM9 (by omega) ro5
        replace ro6 := xkeep eM9 (by omega) ro6
        replace ro7 := xkeep eM9 (by omega) ro7
        replace ro8 := xkeep eM9 (by omega) ro8
        replace fo := xkeep eM9 (by omega) fo
        replace fo1 := xkeep eM9 (by omega) fo1
        replace fo2 := xkeep eM9 (by omega) fo2
        replace fo3 := xkeep eM9 (by omega) fo3
        replace fo4 := xkeep eM9 (by omega) fo4
        replace fo5 := xkeep eM9 (by omega) fo5
        replace fo6 := xkeep eM9 (by omega) fo6
        replace fo7 := xkeep eM9 (by omega) fo7
        replace fo8 := xkeep eM9 (by omega) fo8
        replace cv := xkeep eM9 (by omega) cv
        replace cv1 := xkeep eM9 (by omega) cv1
        replace cv2 := xkeep eM9 (by omega) cv2
        replace ru := xkeep eM9 (by omega) ru
        replace ru1 : ∀ j, j < 9 → M9 (h + 62 + j) = some (xI (kA 0) L (fun _ => 0)) := fun j hi9 => xkeep eM9 (by omega) (ru1 j hi9)
        replace hle := xkeep eM9 (by omega) hle
        replace hfr : ∀ b, (b < h) → M9 b = M b := fun b hb9 => xkeep eM9 (by omega) (hfr b hb9)
        replace ho := xself eM9
        clear eM9
        refine lv_aload_n hx hb dX5_init_163 rfl (lv_at hl 1 rfl) ?_
        refine lv_aload_n hx hb dX5_init_164 rfl (lv_at hl 1 rfl) ?_
        refine x_get (v := .int (nI L)) hx hb hts in_X5_init_X5 hown hK hM (ho) rfl 0 (by decide) (hts (.fieldLink RX5 18 "LimbCurves" "limbs" "I") (by decide +kernel)) (fun _ h9 => h9) rfl dX5_init_165 ?_
        refine r_newi C hM hS hz rfl (hts (.arrayClass .int) (by decide +kernel)) (by omega) (by show _ ≤ 80; omega) (by show _ ≤ 700; omega) dX5_init_168 (fun H hM hS hz => ?_)
        obtain ⟨M9, eM9⟩ : ∃ q, xset M9 (h + 72) (xI (kA 0) L (fun _ => 0)) = q := ⟨_, rfl⟩
        rw [eM9] at hM
        replace ho := xkeep eM9 (by omega) ho
        replace hpar := xkeep eM9 (by omega) hpar
        replace hrow : ∀ i9, i9 < 4 → M9 (h + 2 + i9) = some (xI (kA 0) L (fun _ => 0)) := fun i9 hi9 => xkeep eM9 (by omega) (hrow i9 hi9)
        replace hpts := xkeep eM9 (by omega) hpts
        replace hp1 : ∀ j, j < 8 → M9 (h + 7 + 3 * j) = some (xO 1 [.ref (h + 7 + 3 * j + 1), .ref (h + 7 + 3 * j + 1 + 1), .int (nI 1)]) := fun j hi9 => xkeep eM9 (by omega) (hp1 j hi9)
        replace hp2 : ∀ j, j < 8 → M9 (h + 7 + 3 * j + 1) = some (xI (kA 0) L (fun _ => 0)) := fun j hi9 => xkeep eM9 (by omega) (hp2 j hi9)
        replace hp3 : ∀ j, j < 8 → M9 (h + 7 + 3 * j + 1 + 1) = some (xI (kA 0) L (fun _ => 0)) := fun j hi9 => xkeep eM9 (by omega) (hp3 j hi9)
        replace hscs := xkeep eM9 (by omega) hscs
        replace hsrow : ∀ i9, i9 < 8 → M9 (h + 32 + i9) = some (xI (kA 0) L (fun _ => 0)) := fun i9 hi9 => xkeep eM9 (by omega) (hsrow i9 hi9)
        replace ro := xkeep eM9 (by omega) ro
        replace ro1 := xkeep eM9 (by omega) ro1
        replace ro2 := xkeep eM9 (by omega) ro2
        replace ro3 := xkeep eM9 (by omega) ro3
        replace ro4 := xkeep eM9 (by omega) ro4
        replace ro5 := xkeep eM9 (by omega) ro5
        replace ro6 := xkeep eM9 (by omega) ro6
        replace ro7 := xkeep eM9 (by omega) ro7
        replace ro8 := xkeep eM9 (by omega) ro8
        replace fo := xkeep eM9 (by omega) fo
        replace fo1 := xkeep eM9 (by omega) fo1
        replace fo2 := xkeep eM9 (by omega) fo2
        replace fo3 := xkeep eM9 (by omega) fo3
        replace fo4 := xkeep eM9 (by omega) fo4
        replace fo5 := xkeep eM9 (by omega) fo5
        replace fo6 := xkeep eM9 (by omega) fo6
        replace fo7 := xkeep eM9 (by omega) fo7
        replace fo8 := xkeep eM9 (by omega) fo8
        replace cv := xkeep eM9 (by omega) cv
        replace cv1 := xkeep eM9 (by omega) cv1
        replace cv2 := xkeep eM9 (by omega) cv2
        replace ru := xkeep eM9 (by omega) ru
        replace ru1 : ∀ j, j < 9 → M9 (h + 62 + j) = some (xI (kA 0) L (fun _ => 0)) := fun j hi9 => xkeep eM9 (by omega) (ru1 j hi9)
        replace hle := xkeep eM9 (by omega) hle
        replace hfr : ∀ b, (b < h) → M9 b = M b := fun b hb9 => xkeep eM9 (by omega) (hfr b hb9)
        have hri := xself eM9
        clear eM9
        replace hz : zsz H (h + 73) := hz
        refine z_putF (v := .ref (h + 72)) (ty := (.array .int)) hx hb hts in_X5_init_X5 tyX5 tyX5_ok nmX5 hown hK hM hS hz (ho) rfl 8 (by decide) (hts (.fieldLink RX5 68 "LimbCurves" "right" "[I") (by decide +kernel)) (fun _ h9 => h9) rfl hnm rfl (by decide +kernel) rfl rfl (Nat.le_of_ble_eq_true rfl) dX5_init_170 (fun H locs hM hS hz => ?_)
        have hM : xW D vwCl N0 (xset M9 h (xO 4 [.int (nI L), .ref (h + 1), .ref (h + 6), .ref (h + 31), .ref (h + 40), .ref (h + 58), .ref (h + 61), .ref (h + 71), .ref (h + 72), .null, .int 0, .int 0, .int 0])) H := hM
        obtain ⟨M9, eM9⟩ : ∃ q, xset M9 h (xO 4 [.int (nI L), .ref (h + 1), .ref (h + 6), .ref (h + 31), .ref (h + 40), .ref (h + 58), .ref (h + 61), .ref (h + 71), .ref (h + 72), .null, .int 0, .int 0, .int 0]) = q := ⟨_, rfl⟩
        rw [eM9] at hM
        replace hpar := xkeep eM9 (by omega) hpar
        replace hrow : ∀ i9, i9 < 4 → M9 (h + 2 + i9) = some (xI (kA 0) L (fun _ => 0)) := fun i9 hi9 => xkeep eM9 (by omega) (hrow i9 hi9)
        replace hpts := xkeep eM9 (by omega) hpts
        replace hp1 : ∀ j, j < 8 → M9 (h + 7 + 3 * j) = some (xO 1 [.ref (h + 7 + 3 * j + 1), .ref (h + 7 + 3 * j + 1 + 1), .int (nI 1)]) := fun j hi9 => xkeep eM9 (by omega) (hp1 j hi9)
        replace hp2 : ∀ j, j < 8 → M9 (h + 7 + 3 * j + 1) = some (xI (kA 0) L (fun _ => 0)) := fun j hi9 => xkeep eM9 (by omega) (hp2 j hi9)
        replace hp3 : ∀ j, j < 8 → M9 (h + 7 + 3 * j + 1 + 1) = some (xI (kA 0) L (fun _ => 0)) := fun j hi9 => xkeep eM9 (by omega) (hp3 j hi9)
        replace hscs := xkeep eM9 (by omega) hscs
        replace hsrow : ∀ i9, i9 < 8 → M9 (h + 32 + i9) = some (xI (kA 0) L (fun _ => 0)) := fun i9 hi9 => xkeep eM9 (by omega) (hsrow i9 hi9)
        replace ro := xkeep eM9 (by omega) ro
        replace ro1 := xkeep eM9 (by omega) ro1
        replace ro2 := xkeep eM9 (by omega) ro2
        replace ro3 := xkeep eM9 (by omega) ro3
        replace ro4 := xkeep eM9 (by omega) ro4
        replace ro5 := xkeep eM9 (by omega) ro5
        replace ro6 := xkeep eM9 (by omega) ro6
        replace ro7 := xkeep eM9 (by omega) ro7
        replace ro8 := xkeep eM9 (by omega) ro8
        replace fo := xkeep eM9 (by omega) fo
        replace fo1 := xkeep eM9 (by omega) fo1
        replace fo2 := xkeep eM9 (by omega) fo2
        replace fo3 := xkeep eM9 (by omega) fo3
        replace fo4 := xkeep eM9 (by omega) fo4
        replace fo5 := xkeep eM9 (by omega) fo5
        replace fo6 := xkeep eM9 (by omega) fo6
        replace fo7 := xkeep eM9 (by omega) fo7
        replace fo8 := xkeep eM9 (by omega) fo8
        replace cv := xkeep eM9 (by omega) cv
        replace cv1 := xkeep eM9 (by omega) cv1
        replace cv2 := xkeep eM9 (by omega) cv2
        replace ru := xkeep eM9 (by omega) ru
        replace ru1 : ∀ j, j < 9 → M9 (h + 62 + j) = some (xI (kA 0) L (fun _ => 0)) := fun j hi9 => xkeep eM9 (by omega) (ru1 j hi9)
        replace hle := xkeep eM9 (by omega) hle
        replace hri := xkeep eM9 (by omega) hri
        replace hfr : ∀ b, (b < h) → M9 b = M b := fun b hb9 => xkeep eM9 (by omega) (hfr b hb9)
        replace ho := xself eM9
        clear eM9
        refine lv_aload_n hx hb dX5_init_173 rfl (lv_at hl 1 rfl) ?_
        refine r_new (ci := 1) (fs := [.null, .null, .int 0]) C hM hS hz in_X5_init_X2 tyX2 tyX2_ok (hts (.classLink RX5 27 RX2) (by decide +kernel)) (hts (.instantiable RX2 3) (by decide +kernel)) (hts (.initialized RX2) (by decide +kernel)) rfl (fun j hj => by match j, hj with | 0, _ => rfl | 1, _ => rfl | 2, _ => rfl | j + 3, h => omega) (by show _ ≤ 80; omega) (by show _ ≤ 700; omega) dX5_init_174 (fun H hM hS hz => ?_)
        obtain ⟨M9, eM9⟩ : ∃ q, xset M9 (h + 73) (xO 1 [.null, .null, .int 0]) = q := ⟨_, rfl⟩
        rw [eM9] at hM
        replace ho := xkeep eM9 (by omega) ho
        replace hpar := xkeep eM9 (by omega) hpar
        replace hrow : ∀ i9, i9 < 4 → M9 (h + 2 + i9) = some (xI (kA 0) L (fun _ => 0)) := fun i9 hi9 => xkeep eM9 (by omega) (hrow i9 hi9)
        replace hpts := xkeep eM9 (by omega) hpts
        replace hp1 : ∀ j, j < 8 → M9 (h + 7 + 3 * j) = some (xO 1 [.ref (h + 7 + 3 * j + 1), .ref (h + 7 + 3 * j + 1 + 1), .int (nI 1)]) := fun j hi9 => xkeep eM9 (by omega) (hp1 j hi9)
        replace hp2 : ∀ j, j < 8 → M9 (h + 7 + 3 * j + 1) = some (xI (kA 0) L (fun _ => 0)) := fun j hi9 => xkeep eM9 (by omega) (hp2 j hi9)
        replace hp3 : ∀ j, j < 8 → M9 (h + 7 + 3 * j + 1 + 1) = some (xI (kA 0) L (fun _ => 0)) := fun j hi9 => xkeep eM9 (by omega) (hp3 j hi9)
        replace hscs := xkeep eM9 (by omega) hscs
        replace hsrow : ∀ i9, i9 < 8 → M9 (h + 32 + i9) = some (xI (kA 0) L (fun _ => 0)) := fun i9 hi9 => xkeep eM9 (by omega) (hsrow i9 hi9)
        replace ro := xkeep eM9 (by omega) ro
        replace ro1 := xkeep eM9 (by omega) ro1
        replace ro2 := xkeep eM9 (by omega) ro2
        replace ro3 := xkeep eM9 (by omega) ro3
        replace ro4 := xkeep eM9 (by omega) ro4
        replace ro5 := xkeep eM9 (by omega) ro5
        replace ro6 := xkeep eM9 (by omega) ro6
        replace ro7 := xkeep eM9 (by omega) ro7
        replace ro8 := xkeep eM9 (by omega) ro8
        replace fo := xkeep eM9 (by omega) fo
        replace fo1 := xkeep eM9 (by omega) fo1
        replace fo2 := xkeep eM9 (by omega) fo2
        replace fo3 := xkeep eM9 (by omega) fo3
        replace fo4 := xkeep eM9 (by omega) fo4
        replace fo5 := xkeep eM9 (by omega) fo5
        replace fo6 := xkeep eM9 (by omega) fo6
        replace fo7 := xkeep eM9 (by omega) fo7
        replace fo8 := xkeep eM9 (by omega) fo8
        replace cv := xkeep eM9 (by omega) cv
        replace cv1 := xkeep eM9 (by omega) cv1
        replace cv2 := xkeep eM9 (by omega) cv2
        replace ru := xkeep eM9 (by omega) ru
        replace ru1 : ∀ j, j < 9 → M9 (h + 62 + j) = some (xI (kA 0) L (fun _ => 0)) := fun j hi9 => xkeep eM9 (by omega) (ru1 j hi9)
        replace hle := xkeep eM9 (by omega) hle
        replace hri := xkeep eM9 (by omega) hri
        replace hfr : ∀ b, (b < h) → M9 b = M b := fun b hb9 => xkeep eM9 (by omega) (hfr b hb9)
        have hre := xself eM9
        clear eM9
        replace hz : zsz H (h + 74) := hz
        refine lv_dup hx hb dX5_init_177 rfl ?_
        refine lv_aload_n hx hb dX5_init_178 rfl (lv_at hl 1 rfl) ?_
        refine x_get (v := .int (nI L)) hx hb hts in_X5_init_X5 hown hK hM (ho) rfl 0 (by decide) (hts (.fieldLink RX5 18 "LimbCurves" "limbs" "I") (by decide +kernel)) (fun _ h9 => h9) rfl dX5_init_179 ?_
        refine r_Ivz (As := [.int (nI L)]) (rest := [.ref (h + 73), .ref h]) C hM hS hz (c_initPt l D kA N0 (h + 74) (h + 73) L M9 hre (by omega) hL9) gX5_init_X2_init (hts (.initialized RX2) (by decide +kernel)) (hts (.methodLink RX5 33 yX2_init) (by decide +kernel)) (hts (.instanceMethod yX2_init) (by decide +kernel)) rfl rfl rfl rfl ⟨by decide +kernel, by decide +kernel, (by decide +kernel : (parseMethodDescriptor yX2_init.desc).map (fun d => d.parameters.length) = some 1)⟩ ⟨Nat.le_of_ble_eq_true rfl, Nat.le_of_ble_eq_true rfl⟩ hl.1 rfl (Nat.le_of_ble_eq_true rfl) dX5_init_182 ⟨(by show _ ≤ 80; omega), (by show _ ≤ 700; omega)⟩ (fun M9 H locs hp hM hS hz => ?_)
        obtain ⟨re, re1, re2, hpf⟩ := hp
        replace ho := hpf _ (by omega) |>.trans ho
        replace hpar := hpf _ (by omega) |>.trans hpar
        replace hrow : ∀ i9, i9 < 4 → M9 (h + 2 + i9) = some (xI (kA 0) L (fun _ => 0)) := fun i9 hi9 => hpf _ (by omega) |>.trans (hrow i9 hi9)
        replace hpts := hpf _ (by omega) |>.trans hpts
        replace hp1 : ∀ j, j < 8 → M9 (h + 7 + 3 * j) = some (xO 1 [.ref (h + 7 + 3 * j + 1), .ref (h + 7 + 3 * j + 1 + 1), .int (nI 1)]) := fun j hi9 => hpf _ (by omega) |>.trans (hp1 j hi9)
        replace hp2 : ∀ j, j < 8 → M9 (h + 7 + 3 * j + 1) = some (xI (kA 0) L (fun _ => 0)) := fun j hi9 => hpf _ (by omega) |>.trans (hp2 j hi9)
        replace hp3 : ∀ j, j < 8 → M9 (h + 7 + 3 * j + 1 + 1) = some (xI (kA 0) L (fun _ => 0)) := fun j hi9 => hpf _ (by omega) |>.trans (hp3 j hi9)
        replace hscs := hpf _ (by omega) |>.trans hscs
        replace hsrow : ∀ i9, i9 < 8 → M9 (h + 32 + i9) = some (xI (kA 0) L (fun _ => 0)) := fun i9 hi9 => hpf _ (by omega) |>.trans (hsrow i9 hi9)
        replace ro := hpf _ (by omega) |>.trans ro
        replace ro1 := hpf _ (by omega) |>.trans ro1
        replace ro2 := hpf _ (by omega) |>.trans ro2
        replace ro3 := hpf _ (by omega) |>.trans ro3
        replace ro4 := hpf _ (by omega) |>.trans ro4
        replace ro5 := hpf _ (by omega) |>.trans ro5
        replace ro6 := hpf _ (by omega) |>.trans ro6
        replace ro7 := hpf _ (by omega) |>.trans ro7
        replace ro8 := hpf _ (by omega) |>.trans ro8
        replace fo := hpf _ (by omega) |>.trans fo
        replace fo1 := hpf _ (by omega) |>.trans fo1
        replace fo2 := hpf _ (by omega) |>.trans fo2
        replace fo3 := hpf _ (by omega) |>.trans fo3
        replace fo4 := hpf _ (by omega) |>.trans fo4
        replace fo5 := hpf _ (by omega) |>.trans fo5
        replace fo6 := hpf _ (by omega) |>.trans fo6
        replace fo7 := hpf _ (by omega) |>.trans fo7
        replace fo8 := hpf _ (by omega) |>.trans fo8
        replace cv := hpf _ (by omega) |>.trans cv
        replace cv1 := hpf _ (by omega) |>.trans cv1
        replace cv2 := hpf _ (by omega) |>.trans cv2
        replace ru := hpf _ (by omega) |>.trans ru
        replace ru1 : ∀ j, j < 9 → M9 (h + 62 + j) = some (xI (kA 0) L (fun _ => 0)) := fun j hi9 => hpf _ (by omega) |>.trans (ru1 j hi9)
        replace hle := hpf _ (by omega) |>.trans hle
        replace hri := hpf _ (by omega) |>.trans hri
        replace hfr : ∀ b, (b < h) → M9 b = M b := fun b hb9 => hpf _ (by omega) |>.trans (hfr b hb9)
        replace hz : zsz H (h + 76) := hz
        refine z_putF (v := .ref (h + 73)) (ty := (.object "LimbCurves$Point")) hx hb hts in_X5_init_X5 tyX5 tyX5_ok nmX5 hown hK hM hS hz (ho) rfl 9 (by decide) (hts (.fieldLink RX5 71 "LimbCurves" "result" "LLimbCurves$Point;") (by decide +kernel)) (fun _ h9 => h9) rfl hnm rfl (by decide +kernel) rfl rfl (Nat.le_of_ble_eq_true rfl) dX5_init_185 (fun H locs hM hS hz => ?_)
        have hM : xW D vwCl N0 (xset M9 h (xO 4 [.int (nI L), .ref (h + 1), .ref (h + 6), .ref (h + 31), .ref (h + 40), .ref (h + 58), .ref (h + 61), .ref (h + 71), .ref (h + 72), .ref (h + 73), .int 0, .int 0, .int 0])) H := hM
        obtain ⟨M9, eM9⟩ : ∃ q, xset M9 h (xO 4 [.int (nI L), .ref (h + 1), .ref (h + 6), .ref (h + 31), .ref (h + 40), .ref (h + 58), .ref (h + 61), .ref (h + 71), .ref (h + 72), .ref (h + 73), .int 0, .int 0, .int 0]) = q := ⟨_, rfl⟩
        rw [eM9] at hM
        replace hpar := xkeep eM9 (by omega) hpar
        replace hrow : ∀ i9, i9 < 4 → M9 (h + 2 + i9) = some (xI (kA 0) L (fun _ => 0)) := fun i9 hi9 => xkeep eM9 (by omega) (hrow i9 hi9)
        replace hpts := xkeep eM9 (by omega) hpts
        replace hp1 : ∀ j, j < 8 → M9 (h + 7 + 3 * j) = some (xO 1 [.ref (h + 7 + 3 * j + 1), .ref (h + 7 + 3 * j + 1 + 1), .int (nI 1)]) := fun j hi9 => xkeep eM9 (by omega) (hp1 j hi9)
        replace hp2 : ∀ j, j < 8 → M9 (h + 7 + 3 * j + 1) = some (xI (kA 0) L (fun _ => 0)) := fun j hi9 => xkeep eM9 (by omega) (hp2 j hi9)
        replace hp3 : ∀ j, j < 8 → M9 (h + 7 + 3 * j + 1 + 1) = some (xI (kA 0) L (fun _ => 0)) := fun j hi9 => xkeep eM9 (by omega) (hp3 j hi9)
        replace hscs := xkeep eM9 (by omega) hscs
        replace hsrow : ∀ i9, i9 < 8 → M9 (h + 32 + i9) = some (xI (kA 0) L (fun _ => 0)) := fun i9 hi9 => xkeep eM9 (by omega) (hsrow i9 hi9)
        replace ro := xkeep eM9 (by omega) ro
        replace ro1 := xkeep eM9 (by omega) ro1
        replace ro2 := xkeep eM9 (by omega) ro2
        replace ro3 := xkeep eM9 (by omega) ro3
        replace ro4 := xkeep eM9 (by omega) ro4
        replace ro5 := xkeep eM9 (by omega) ro5
        replace ro6 := xkeep eM9 (by omega) ro6
        replace ro7 := xkeep eM9 (by omega) ro7
        replace ro8 := xkeep eM9 (by omega) ro8
        replace fo := xkeep eM9 (by omega) fo
        replace fo1 := xkeep eM9 (by omega) fo1
        replace fo2 := xkeep eM9 (by omega) fo2
        replace fo3 := xkeep eM9 (by omega) fo3
        replace fo4 := xkeep eM9 (by omega) fo4
        replace fo5 := xkeep eM9 (by omega) fo5
        replace fo6 := xkeep eM9 (by omega) fo6
        replace fo7 := xkeep eM9 (by omega) fo7
        replace fo8 := xkeep eM9 (by omega) fo8
        replace cv := xkeep eM9 (by omega) cv
        replace cv1 := xkeep eM9 (by omega) cv1
        replace cv2 := xkeep eM9 (by omega) cv2
        replace ru := xkeep eM9 (by omega) ru
        replace ru1 : ∀ j, j < 9 → M9 (h + 62 + j) = some (xI (kA 0) L (fun _ => 0)) := fun j hi9 => xkeep eM9 (by omega) (ru1 j hi9)
        replace hle := xkeep eM9 (by omega) hle
        replace hri := xkeep eM9 (by omega) hri
        replace re := xkeep eM9 (by omega) re
        replace re1 := xkeep eM9 (by omega) re1
        replace re2 := xkeep eM9 (by omega) re2
        replace hfr : ∀ b, (b < h) → M9 b = M b := fun b hb9 => xkeep eM9 (by omega) (hfr b hb9)
        replace ho := xself eM9
        clear eM9
        refine lv_aload_n hx hb dX5_init_188 rfl (lv_at hl 1 rfl) ?_
        refine lv_iconst (v := nI 0) hx hb dX5_init_189 (by decide) ?_
        refine z_put (v := .int (nI 0)) (ty := .boolean) hx hb hts in_X5_init_X5 tyX5 tyX5_ok nmX5 hown hK hM hS hz (ho) rfl 10 (by decide) (hts (.fieldLink RX5 75 "LimbCurves" "sealed" "Z") (by decide +kernel)) (fun _ h9 => h9) rfl (by decide +kernel) rfl rfl (Nat.le_of_ble_eq_true rfl) dX5_init_190 (fun H locs hM hS hz => ?_)
        have hM : xW D vwCl N0 (xset M9 h (xO 4 [.int (nI L), .ref (h + 1), .ref (h + 6), .ref (h + 31), .ref (h + 40), .ref (h + 58), .ref (h + 61), .ref (h + 71), .ref (h + 72), .ref (h + 73), .int (nI 0), .int 0, .int 0])) H := hM
        obtain ⟨M9, eM9⟩ : ∃ q, xset M9 h (xO 4 [.int (nI L), .ref (h + 1), .ref (h + 6), .ref (h + 31), .ref (h + 40), .ref (h + 58), .ref (h + 61), .ref (h + 71), .ref (h + 72), .ref (h + 73), .int (nI 0), .int 0, .int 0]) = q := ⟨_, rfl⟩
        rw [eM9] at hM
        replace hpar := xkeep eM9 (by omega) hpar
        replace hrow : ∀ i9, i9 < 4 → M9 (h + 2 + i9) = some (xI (kA 0) L (fun _ => 0)) := fun i9 hi9 => xkeep eM9 (by omega) (hrow i9 hi9)
        replace hpts := xkeep eM9 (by omega) hpts
        replace hp1 : ∀ j, j < 8 → M9 (h + 7 + 3 * j) = some (xO 1 [.ref (h + 7 + 3 * j + 1), .ref (h + 7 + 3 * j + 1 + 1), .int (nI 1)]) := fun j hi9 => xkeep eM9 (by omega) (hp1 j hi9)
        replace hp2 : ∀ j, j < 8 → M9 (h + 7 + 3 * j + 1) = some (xI (kA 0) L (fun _ => 0)) := fun j hi9 => xkeep eM9 (by omega) (hp2 j hi9)
        replace hp3 : ∀ j, j < 8 → M9 (h + 7 + 3 * j + 1 + 1) = some (xI (kA 0) L (fun _ => 0)) := fun j hi9 => xkeep eM9 (by omega) (hp3 j hi9)
        replace hscs := xkeep eM9 (by omega) hscs
        replace hsrow : ∀ i9, i9 < 8 → M9 (h + 32 + i9) = some (xI (kA 0) L (fun _ => 0)) := fun i9 hi9 => xkeep eM9 (by omega) (hsrow i9 hi9)
        replace ro := xkeep eM9 (by omega) ro
        replace ro1 := xkeep eM9 (by omega) ro1
        replace ro2 := xkeep eM9 (by omega) ro2
        replace ro3 := xkeep eM9 (by omega) ro3
        replace ro4 := xkeep eM9 (by omega) ro4
        replace ro5 := xkeep eM9 (by omega) ro5
        replace ro6 := xkeep eM9 (by omega) ro6
        replace ro7 := xkeep eM9 (by omega) ro7
        replace ro8 := xkeep eM9 (by omega) ro8
        replace fo := xkeep eM9 (by omega) fo
        replace fo1 := xkeep eM9 (by omega) fo1
        replace fo2 := xkeep eM9 (by omega) fo2
        replace fo3 := xkeep eM9 (by omega) fo3
        replace fo4 := xkeep eM9 (by omega) fo4
        replace fo5 := xkeep eM9 (by omega) fo5
        replace fo6 := xkeep eM9 (by omega) fo6
        replace fo7 := xkeep eM9 (by omega) fo7
        replace fo8 := xkeep eM9 (by omega) fo8
        replace cv := xkeep eM9 (by omega) cv
        replace cv1 := xkeep eM9 (by omega) cv1
        replace cv2 := xkeep eM9 (by omega) cv2
        replace ru := xkeep eM9 (by omega) ru
        replace ru1 : ∀ j, j < 9 → M9 (h + 62 + j) = some (xI (kA 0) L (fun _ => 0)) := fun j hi9 => xkeep eM9 (by omega) (ru1 j hi9)
        replace hle := xkeep eM9 (by omega) hle
        replace hri := xkeep eM9 (by omega) hri
        replace re := xkeep eM9 (by omega) re
        replace re1 := xkeep eM9 (by omega) re1
        replace re2 := xkeep eM9 (by omega) re2
        replace hfr : ∀ b, (b < h) → M9 b = M b := fun b hb9 => xkeep eM9 (by omega) (hfr b hb9)
        replace ho := xself eM9
        clear eM9
        refine lv_aload_n hx hb dX5_init_193 rfl (lv_at hl 1 rfl) ?_
        refine lv_iconst (v := (-1)) hx hb dX5_init_194 (by decide) ?_
        refine z_put (v := .int (-1)) (ty := .int) hx hb hts in_X5_init_X5 tyX5 tyX5_ok nmX5 hown hK hM hS hz (ho) rfl 11 (by decide) (hts (.fieldLink RX5 79 "LimbCurves" "fedSlot" "I") (by decide +kernel)) (fun _ h9 => h9) rfl (by decide +kernel) rfl rfl (Nat.le_of_ble_eq_true rfl) dX5_init_195 (fun H locs hM hS hz => ?_)
        have hM : xW D vwCl N0 (xset M9 h (xO 4 [.int (nI L), .ref (h + 1), .ref (h + 6), .ref (h + 31), .ref (h + 40), .ref (h + 58), .ref (h + 61), .ref (h + 71), .ref (h + 72), .ref (h + 73), .int (nI 0), .int (-1), .int 0])) H := hM
        obtain ⟨M9, eM9⟩ : ∃ q, xset M9 h (xO 4 [.int (nI L), .ref (h + 1), .ref (h + 6), .ref (h + 31), .ref (h + 40), .ref (h + 58), .ref (h + 61), .ref (h + 71), .ref (h + 72), .ref (h + 73), .int (nI 0), .int (-1), .int 0]) = q := ⟨_, rfl⟩
        rw [eM9] at hM
        replace hpar := xkeep eM9 (by omega) hpar
        replace hrow : ∀ i9, i9 < 4 → M9 (h + 2 + i9) = some (xI (kA 0) L (fun _ => 0)) := fun i9 hi9 => xkeep eM9 (by omega) (hrow i9 hi9)
        replace hpts := xkeep eM9 (by omega) hpts
        replace hp1 : ∀ j, j < 8 → M9 (h + 7 + 3 * j) = some (xO 1 [.ref (h + 7 + 3 * j + 1), .ref (h + 7 + 3 * j + 1 + 1), .int (nI 1)]) := fun j hi9 => xkeep eM9 (by omega) (hp1 j hi9)
        replace hp2 : ∀ j, j < 8 → M9 (h + 7 + 3 * j + 1) = some (xI (kA 0) L (fun _ => 0)) := fun j hi9 => xkeep eM9 (by omega) (hp2 j hi9)
        replace hp3 : ∀ j, j < 8 → M9 (h + 7 + 3 * j + 1 + 1) = some (xI (kA 0) L (fun _ => 0)) := fun j hi9 => xkeep eM9 (by omega) (hp3 j hi9)
        replace hscs := xkeep eM9 (by omega) hscs
        replace hsrow : ∀ i9, i9 < 8 → M9 (h + 32 + i9) = some (xI (kA 0) L (fun _ => 0)) := fun i9 hi9 => xkeep eM9 (by omega) (hsrow i9 hi9)
        replace ro := xkeep eM9 (by omega) ro
        replace ro1 := xkeep eM9 (by omega) ro1
        replace ro2 := xkeep eM9 (by omega) ro2
        replace ro3 := xkeep eM9 (by omega) ro3
        replace ro4 := xkeep eM9 (by omega) ro4
        replace ro5 := xkeep eM9 (by omega) ro5
        replace ro6 := xkeep eM9 (by omega) ro6
        replace ro7 := xkeep eM9 (by omega) ro7
        replace ro8 := xkeep eM9 (by omega) ro8
        replace fo := xkeep eM9 (by omega) fo
        replace fo1 := xkeep eM9 (by omega) fo1
        replace fo2 := xkeep eM9 (by omega) fo2
        replace fo3 := xkeep eM9 (by omega) fo3
        replace fo4 := xkeep eM9 (by omega) fo4
        replace fo5 := xkeep eM9 (by omega) fo5
        replace fo6 := xkeep eM9 (by omega) fo6
        replace fo7 := xkeep eM9 (by omega) fo7
        replace fo8 := xkeep eM9 (by omega) fo8
        replace cv := xkeep eM9 (by omega) cv
        replace cv1 := xkeep eM9 (by omega) cv1
        replace cv2 := xkeep eM9 (by omega) cv2
        replace ru := xkeep eM9 (by omega) ru
        replace ru1 : ∀ j, j < 9 → M9 (h + 62 + j) = some (xI (kA 0) L (fun _ => 0)) := fun j hi9 => xkeep eM9 (by omega) (ru1 j hi9)
        replace hle := xkeep eM9 (by omega) hle
        replace hri := xkeep eM9 (by omega) hri
        replace re := xkeep eM9 (by omega) re
        replace re1 := xkeep eM9 (by omega) re1
        replace re2 := xkeep eM9 (by omega) re2
        replace hfr : ∀ b, (b < h) → M9 b = M b := fun b hb9 => xkeep eM9 (by omega) (hfr b hb9)
        replace ho := xself eM9
        clear eM9
        refine lv_aload_n hx hb dX5_init_198 rfl (lv_at hl 1 rfl) ?_
        refine lv_iconst (v := nI 0) hx hb dX5_init_199 (by decide) ?_
        refine z_put (v := .int (nI 0)) (ty := .int) hx hb hts in_X5_init_X5 tyX5 tyX5_ok nmX5 hown hK hM hS hz (ho) rfl 12 (by decide) (hts (.fieldLink RX5 82 "LimbCurves" "fedLimbs" "I") (by decide +kernel)) (fun _ h9 => h9) rfl (by decide +kernel) rfl rfl (Nat.le_of_ble_eq_true rfl) dX5_init_200 (fun H locs hM hS hz => ?_)
        have hM : xW D vwCl N0 (xset M9 h (xO 4 [.int (nI L), .ref (h + 1), .ref (h + 6), .ref (h + 31), .ref (h + 40), .ref (h + 58), .ref (h + 61), .ref (h + 71), .ref (h + 72), .ref (h + 73), .int (nI 0), .int (-1), .int (nI 0)])) H := hM
        obtain ⟨M9, eM9⟩ : ∃ q, xset M9 h (xO 4 [.int (nI L), .ref (h + 1), .ref (h + 6), .ref (h + 31), .ref (h + 40), .ref (h + 58), .ref (h + 61), .ref (h + 71), .ref (h + 72), .ref (h + 73), .int (nI 0), .int (-1), .int (nI 0)]) = q := ⟨_, rfl⟩
        rw [eM9] at hM
        replace hpar := xkeep eM9 (by omega) hpar
        replace hrow : ∀ i9, i9 < 4 → M9 (h + 2 + i9) = some (xI (kA 0) L (fun _ => 0)) := fun i9 hi9 => xkeep eM9 (by omega) (hrow i9 hi9)
        replace hpts := xkeep eM9 (by omega) hpts
        replace hp1 : ∀ j, j < 8 → M9 (h + 7 + 3 * j) = some (xO 1 [.ref (h + 7 + 3 * j + 1), .ref (h + 7 + 3 * j + 1 + 1), .int (nI 1)]) := fun j hi9 => xkeep eM9 (by omega) (hp1 j hi9)
        replace hp2 : ∀ j, j < 8 → M9 (h + 7 + 3 * j + 1) = some (xI (kA 0) L (fun _ => 0)) := fun j hi9 => xkeep eM9 (by omega) (hp2 j hi9)
        replace hp3 : ∀ j, j < 8 → M9 (h + 7 + 3 * j + 1 + 1) = some (xI (kA 0) L (fun _ => 0)) := fun j hi9 => xkeep eM9 (by omega) (hp3 j hi9)
        replace hscs := xkeep eM9 (by omega) hscs
        replace hsrow : ∀ i9, i9 < 8 → M9 (h + 32 + i9) = some (xI (kA 0) L (fun _ => 0)) := fun i9 hi9 => xkeep eM9 (by omega) (hsrow i9 hi9)
        replace ro := xkeep eM9 (by omega) ro
        replace ro1 := xkeep eM9 (by omega) ro1
        replace ro2 := xkeep eM9 (by omega) ro2
        replace ro3 := xkeep eM9 (by omega) ro3
        replace ro4 := xkeep eM9 (by omega) ro4
        replace ro5 := xkeep eM9 (by omega) ro5
        replace ro6 := xkeep eM9 (by omega) ro6
        replace ro7 := xkeep eM9 (by omega) ro7
        replace ro8 := xkeep eM9 (by omega) ro8
        replace fo := xkeep eM9 (by omega) fo
        replace fo1 := xkeep eM9 (by omega) fo1
        replace fo2 := xkeep eM9 (by omega) fo2
        replace fo3 := xkeep eM9 (by omega) fo3
        replace fo4 := xkeep eM9 (by omega) fo4
        replace fo5 := xkeep eM9 (by omega) fo5
        replace fo6 := xkeep eM9 (by omega) fo6
        replace fo7 := xkeep eM9 (by omega) fo7
        replace fo8 := xkeep eM9 (by omega) fo8
        replace cv := xkeep eM9 (by omega) cv
        replace cv1 := xkeep eM9 (by omega) cv1
        replace cv2 := xkeep eM9 (by omega) cv2
        replace ru := xkeep eM9 (by omega) ru
        replace ru1 : ∀ j, j < 9 → M9 (h + 62 + j) = some (xI (kA 0) L (fun _ => 0)) := fun j hi9 => xkeep eM9 (by omega) (ru1 j hi9)
        replace hle := xkeep eM9 (by omega) hle
        replace hri := xkeep eM9 (by omega) hri
        replace re := xkeep eM9 (by omega) re
        replace re1 := xkeep eM9 (by omega) re1
        replace re2 := xkeep eM9 (by omega) re2
        replace hfr : ∀ b, (b < h) → M9 b = M b := fun b hb9 => xkeep eM9 (by omega) (hfr b hb9)
        replace ho := xself eM9
        clear eM9
        have hD1 : Dc kA M9 h (spNew x) := by
          refine ⟨by rw [eL]; exact ho, ⟨_, hpar, fun i hi => ?_⟩, ⟨_, hpts, fun i hi => hg i hi⟩, ⟨_, hscs, fun i hi => ?_⟩, fun s hs => ?_, fun s h4 h12 => ?_, fun s h12 h20 => ?_⟩
          · simp only [hi, if_true]
          · simp only [hi, if_true]
          · rw [eL]
            exact isN_0 (hrow s hs)
          · rw [eL]
            exact ⟨hp1 (s - 4) (by omega), isN_0 (hp2 (s - 4) (by omega)), isN_0 (hp3 (s - 4) (by omega))⟩
          · rw [eL]
            exact isN_0 (hsrow (s - 12) (by omega))
        have hD2 : Ds kA M9 h L 0 0 := by
          refine ⟨⟨⟨_, _, ro⟩, ⟨_, ro1⟩, ⟨_, ro2⟩, ⟨_, ro3⟩, ⟨_, ro4⟩, ⟨_, ro5⟩, ⟨_, ro6⟩, ⟨_, ro7⟩, ⟨_, ro8⟩⟩, ⟨⟨_, _, fo⟩, ⟨_, fo1⟩, ⟨_, fo2⟩, ⟨_, fo3⟩, ⟨_, fo4⟩, ⟨_, fo5⟩, ⟨_, fo6⟩, ⟨_, fo7⟩, ⟨_, fo8⟩⟩, cv, ⟨_, cv1⟩, ⟨_, cv2⟩, ⟨1, ru⟩, fun k hk => ⟨_, ru1 k hk⟩, ⟨_, hle⟩, ⟨_, hri⟩, ⟨_, re⟩, ⟨_, re1⟩, ⟨_, re2⟩, fun q => by omega⟩
        have hD3 : Ds kA M9 h (spNew x).L (spNew x).sealed ((spNew x).a 0) := by rw [eL]; exact hD2
        refine W.widen (k := 80) (n := 700) (by omega) (by omega) ?_
        exact r_vretz C hM hS hz (⟨⟨Si_new x, hD1, hD3⟩, hfr⟩) dX5_init_203
      · omega
  exact lp 8 0 _ M9 H locs _ rfl ho hpar hrow hpts (fun j hj => by omega) (fun j hj => by omega) (fun j hj => by omega) (fun j hj => by omega) hfr hM hS hz (lv_sub hl [0, 1, 2] rfl)
end INITD
