theorem in_X5_endFeeding_X5 : ∀ w ∈ wsX50, w ∈ wsX5_endFeeding := by decide +kernel
theorem in_X5_limbsOf_X5 : ∀ w ∈ wsX50, w ∈ wsX5_limbsOf := by decide +kernel
theorem in_X5_placeInRow_X5 : ∀ w ∈ wsX50, w ∈ wsX5_placeInRow := by decide +kernel
theorem in_X5_pointIn_X5 : ∀ w ∈ wsX50, w ∈ wsX5_pointIn := by decide +kernel
theorem in_X5_rowOf_X2 : ∀ w ∈ wsX20, w ∈ wsX5_rowOf := by decide +kernel
theorem in_X5_rowOf_X5 : ∀ w ∈ wsX50, w ∈ wsX5_rowOf := by decide +kernel
theorem in_X5_scalarIn_X5 : ∀ w ∈ wsX50, w ∈ wsX5_scalarIn := by decide +kernel
section RCALLQ
variable {p : Program} {l : Launch} {e : Env} {R : Room} {s : State} {m : MethodId} {args : Array Value} {below : List Frame} {meth : Method} {c : Code} {H : Heap} {locs : List Loc} {cells slots : Nat} {Q : State → Prop}
variable {cc : ByteArray} {pc nL : Nat} {ret : Option FieldType} {own : String} {Ts : List Cond} {ls : Array Slot} {rest : List Value} {D : va_G} {cl : List vw_C} {tys : List (ClassId × FieldType)} {N0 : Nat} {M : xM}
variable {y : MethodName} {bytes : ByteArray} {maxL mc ms index : Nat} {rt : Option FieldType} {ws ws' : List Cond} {rm : Room} {As st0 : List Value} {b : Nat}
theorem r_VrQ {post : xM → Nat → Prop} (C : xC p s m args meth c cc nL ret own Ts D cl tys N0) (hM : xW D cl N0 M H) (hS : va_S (xA N0) s.heap H locs) (hC : Met l y ws rm (va_Pc (.ref b :: As) (xB D cl tys N0 M)) (va_Qr (S := xM) (fun _ => True) (fun M1 ra t => post M1 ra ∧ xB D cl tys N0 M1 t) (xA N0)) mc ms (xA N0)) {ci : Nat} {fs : List Value} {q : vw_C} (he : M b = some (xO ci fs)) (hc : cl[ci]? = some q) (hT : GoodIn Ts (wsV own index q.1 y ws)) (hw : ws = Cond.code y bytes maxL rt :: ws') (hrc : rm.cells = mc) (hrs : rm.slots = ms) (hd : y.cls = q.1 ∧ y.cls ≠ "java/lang/invoke/MethodHandle" ∧ y.cls ≠ "java/lang/invoke/VarHandle" ∧ (parseMethodDescriptor y.desc).map (fun d => d.parameters.length) = some As.length) (hR : rm.frames + 1 ≤ R.frames ∧ 8 + (maxL + 11) + rm.locals ≤ R.locals) (hl : ls.size = nL) (hst : st0 = As.reverse ++ .ref b :: rest) (hrest : (rest.map fun v => v.category).sum ≤ 8) (hdg : decode cc pc = .ok (.invokevirtual index, 3)) (hf : cells + mc ≤ R.cells ∧ slots + ms ≤ R.slots)
    (kk : ∀ (ra : Nat) (M1 : xM) (H1 : Heap) (locs1 : List Loc), post M1 ra → xW D cl N0 M1 H1 → va_S (xA N0) s.heap H1 locs1 → W p l e R s m args below meth c H1 locs1 (cells + mc) (slots + ms) Q (F0 m (pc + 3) ls (.ref ra :: rest))) : W p l e R s m args below meth c H locs cells slots Q (F0 m pc ls st0) :=
  r_Vr (post := fun q => post q.1 q.2) C hM hS hC he hc hT hw hrc hrs hd hR hl hst hrest hdg hf kk
end RCALLQ
section RRETQ
variable {p : Program} {l : Launch} {e : Env} {R : Room} {s : State} {m : MethodId} {args : Array Value} {below : List Frame} {meth : Method} {c : Code} {H : Heap} {locs : List Loc} {cells slots : Nat}
variable {cc : ByteArray} {pc nL : Nat} {own : String} {Ts : List Cond} {ls : Array Slot} {D : va_G} {cl : List vw_C} {tys : List (ClassId × FieldType)} {N0 : Nat} {M : xM}
theorem r_aretQ {post : xM → Nat → Prop} {v : Nat} {rt : FieldType} (hrt : (∃ n, rt = .object n) ∨ ∃ t, rt = .array t) (C : xC p s m args meth c cc nL (some rt) own Ts D cl tys N0) (hM : xW D cl N0 M H) (hS : va_S (xA N0) s.heap H locs) (hp : post M v) (hdg : decode cc pc = .ok (.areturn, 1)) : W p l e R s m args below meth c H locs cells slots (MQ below (va_Qr (S := xM) (fun _ => True) (fun M1 ra t => post M1 ra ∧ xB D cl tys N0 M1 t) (xA N0)) args s cells slots (xA N0)) (F0 m pc ls [.ref v]) :=
  r_aret (post := fun q => post q.1 q.2) hrt C hM hS hp hdg
end RRETQ
theorem ilt {x y : Int32} : x < y ↔ x.toInt < y.toInt := Int32.lt_iff_toInt_lt
theorem ile {x y : Int32} : x ≤ y ↔ x.toInt ≤ y.toInt := Int32.le_iff_toInt_le
theorem t_0 : (0 : Int32).toInt = 0 := by decide
theorem t_4 : (nI 4).toInt = 4 := by decide
theorem t_12 : (nI 12).toInt = 12 := by decide
theorem t_20 : (nI 20).toInt = 20 := by decide
def Dk (kA : Nat → ClassId) (M : xM) (h : Nat) (S : St) : Prop := Si S ∧ Dc kA M h S ∧ Ds kA M h S.L S.sealed (S.a 0)
theorem Ds.pp {kA : Nat → ClassId} {M : xM} {h L sl pp pp' : Nat} (d : Ds kA M h L sl pp) (hp : sl = 1 → pp' = pp) : Ds kA M h L sl pp' := by
  obtain ⟨d1, d2, d3, d4, d5, d6, d7, d8, d9, d10, d11, d12, d13⟩ := d
  exact ⟨d1, d2, d3, d4, d5, d6, d7, d8, d9, d10, d11, d12, fun q => by rw [hp q]; exact d13 q⟩
theorem Ds.opn {kA : Nat → ClassId} {M : xM} {h L sl pp : Nat} (d : Ds kA M h L sl pp) : Ds kA M h L 0 pp := by
  obtain ⟨d1, d2, d3, d4, d5, d6, d7, d8, d9, d10, d11, d12, d13⟩ := d
  exact ⟨d1, d2, d3, d4, d5, d6, d7, d8, d9, d10, d11, d12, fun q => absurd q (by decide)⟩
theorem narB {v : Int32} {P : Prop} (h : (v = 1 ∧ P) ∨ (v = 0 ∧ ¬ P)) : narrow .boolean (.int v) = .int v := by
  rcases h with ⟨h, -⟩ | ⟨h, -⟩ <;> rw [h] <;> rfl
theorem b01 {v : Int32} {P : Prop} [Decidable P] (h : (v = 1 ∧ P) ∨ (v = 0 ∧ ¬ P)) : v = if P then 1 else 0 := by
  rcases h with ⟨h, q⟩ | ⟨h, q⟩
  · rw [if_pos q]; exact h
  · rw [if_neg q]; exact h
section SML
variable {p : Program} {l : Launch} {e : Env} {R : Room} {s : State} {m : MethodId} {args : Array Value} {below : List Frame} {meth : Method} {c : Code} {Q : State → Prop} {cells slots : Nat} {ret : Option FieldType} {D : va_G} {kA : Nat → ClassId} {N0 : Nat}
set_option maxRecDepth 100000 in
theorem c_isSlot (l : Launch) (D : va_G) (kA : Nat → ClassId) (N0 : Nat) (M : xM) (x : Int32) : cI l yX5_isSlot wsX5_isSlot (xR 0) [.int x] D kA N0 M (fun v M1 => M1 = M ∧ ((v = 1 ∧ isSl x) ∨ (v = 0 ∧ ¬ isSl x))) := by
  refine r_met (cc := cX5_isSlot) (maxL := 1) (ret := (some .boolean)) (by decide) rfl (Nat.le_of_ble_eq_true rfl) ?_
  intro p e s m below meth c ls C hM hnm hl
  obtain ⟨hx, hb, hml, hown, hts, hr, hlocks, hK, hN⟩ := _root_.id C
  have hS : va_S (xA N0) s.heap s.heap [] := va_S.rf
  have hl : lv_has ls 1 [(0, .int x)] := hl
  refine lv_iload_n hx hb dX5_isSlot_0 rfl (lv_at hl 0 rfl) ?_
  refine lv_if_lt (tgt := 14) hx hb dX5_isSlot_1 (by decide) (fun hc => ?_) (fun hc => ?_)
  · rw [ilt, t_0] at hc
    refine lv_iconst (v := nI 0) hx hb dX5_isSlot_14 (by decide) ?_
    exact r_zret C hM hS rfl (⟨rfl, Or.inr ⟨rfl, fun q => by omega⟩⟩) dX5_isSlot_15
  · rw [ilt, t_0] at hc
    refine lv_iload_n hx hb dX5_isSlot_4 rfl (lv_at hl 0 rfl) ?_
    refine lv_bipush (v := nI 20) hx hb dX5_isSlot_5 (by decide) ?_
    refine lv_icmp_ge (tgt := 14) hx hb dX5_isSlot_7 (by decide) (fun hd => ?_) (fun hd => ?_)
    · rw [ile, t_20] at hd
      refine lv_iconst (v := nI 0) hx hb dX5_isSlot_14 (by decide) ?_
      exact r_zret C hM hS rfl (⟨rfl, Or.inr ⟨rfl, fun q => by omega⟩⟩) dX5_isSlot_15
    · rw [ile, t_20] at hd
      refine lv_iconst (v := nI 1) hx hb dX5_isSlot_10 (by decide) ?_
      refine lv_goto (tgt := 15) hx hb dX5_isSlot_11 (by decide) ?_
      exact r_zret C hM hS rfl (⟨rfl, Or.inl ⟨rfl, by omega⟩⟩) dX5_isSlot_15
set_option maxRecDepth 100000 in
theorem c_isParameter (l : Launch) (D : va_G) (kA : Nat → ClassId) (N0 : Nat) (M : xM) (x : Int32) : cI l yX5_isParameter wsX5_isParameter (xR 0) [.int x] D kA N0 M (fun v M1 => M1 = M ∧ ((v = 1 ∧ isPa x) ∨ (v = 0 ∧ ¬ isPa x))) := by
  refine r_met (cc := cX5_isParameter) (maxL := 1) (ret := (some .boolean)) (by decide) rfl (Nat.le_of_ble_eq_true rfl) ?_
  intro p e s m below meth c ls C hM hnm hl
  obtain ⟨hx, hb, hml, hown, hts, hr, hlocks, hK, hN⟩ := _root_.id C
  have hS : va_S (xA N0) s.heap s.heap [] := va_S.rf
  have hl : lv_has ls 1 [(0, .int x)] := hl
  refine lv_iload_n hx hb dX5_isParameter_0 rfl (lv_at hl 0 rfl) ?_
  refine lv_if_lt (tgt := 13) hx hb dX5_isParameter_1 (by decide) (fun hc => ?_) (fun hc => ?_)
  · rw [ilt, t_0] at hc
    refine lv_iconst (v := nI 0) hx hb dX5_isParameter_13 (by decide) ?_
    exact r_zret C hM hS rfl (⟨rfl, Or.inr ⟨rfl, fun q => by omega⟩⟩) dX5_isParameter_14
  · rw [ilt, t_0] at hc
    refine lv_iload_n hx hb dX5_isParameter_4 rfl (lv_at hl 0 rfl) ?_
    refine lv_iconst (v := nI 4) hx hb dX5_isParameter_5 (by decide) ?_
    refine lv_icmp_ge (tgt := 13) hx hb dX5_isParameter_6 (by decide) (fun hd => ?_) (fun hd => ?_)
    · rw [ile, t_4] at hd
      refine lv_iconst (v := nI 0) hx hb dX5_isParameter_13 (by decide) ?_
      exact r_zret C hM hS rfl (⟨rfl, Or.inr ⟨rfl, fun q => by omega⟩⟩) dX5_isParameter_14
    · rw [ile, t_4] at hd
      refine lv_iconst (v := nI 1) hx hb dX5_isParameter_9 (by decide) ?_
      refine lv_goto (tgt := 14) hx hb dX5_isParameter_10 (by decide) ?_
      exact r_zret C hM hS rfl (⟨rfl, Or.inl ⟨rfl, by omega⟩⟩) dX5_isParameter_14
set_option maxRecDepth 100000 in
theorem c_isPoint (l : Launch) (D : va_G) (kA : Nat → ClassId) (N0 : Nat) (M : xM) (x : Int32) : cI l yX5_isPoint wsX5_isPoint (xR 0) [.int x] D kA N0 M (fun v M1 => M1 = M ∧ ((v = 1 ∧ isPo x) ∨ (v = 0 ∧ ¬ isPo x))) := by
  refine r_met (cc := cX5_isPoint) (maxL := 1) (ret := (some .boolean)) (by decide) rfl (Nat.le_of_ble_eq_true rfl) ?_
  intro p e s m below meth c ls C hM hnm hl
  obtain ⟨hx, hb, hml, hown, hts, hr, hlocks, hK, hN⟩ := _root_.id C
  have hS : va_S (xA N0) s.heap s.heap [] := va_S.rf
  have hl : lv_has ls 1 [(0, .int x)] := hl
  refine lv_iload_n hx hb dX5_isPoint_0 rfl (lv_at hl 0 rfl) ?_
  refine lv_iconst (v := nI 4) hx hb dX5_isPoint_1 (by decide) ?_
  refine lv_icmp_lt (tgt := 15) hx hb dX5_isPoint_2 (by decide) (fun hc => ?_) (fun hc => ?_)
  · rw [ilt, t_4] at hc
    refine lv_iconst (v := nI 0) hx hb dX5_isPoint_15 (by decide) ?_
    exact r_zret C hM hS rfl (⟨rfl, Or.inr ⟨rfl, fun q => by omega⟩⟩) dX5_isPoint_16
  · rw [ilt, t_4] at hc
    refine lv_iload_n hx hb dX5_isPoint_5 rfl (lv_at hl 0 rfl) ?_
    refine lv_bipush (v := nI 12) hx hb dX5_isPoint_6 (by decide) ?_
    refine lv_icmp_ge (tgt := 15) hx hb dX5_isPoint_8 (by decide) (fun hd => ?_) (fun hd => ?_)
    · rw [ile, t_12] at hd
      refine lv_iconst (v := nI 0) hx hb dX5_isPoint_15 (by decide) ?_
      exact r_zret C hM hS rfl (⟨rfl, Or.inr ⟨rfl, fun q => by omega⟩⟩) dX5_isPoint_16
    · rw [ile, t_12] at hd
      refine lv_iconst (v := nI 1) hx hb dX5_isPoint_11 (by decide) ?_
      refine lv_goto (tgt := 16) hx hb dX5_isPoint_12 (by decide) ?_
      exact r_zret C hM hS rfl (⟨rfl, Or.inl ⟨rfl, by omega⟩⟩) dX5_isPoint_16
set_option maxRecDepth 100000 in
theorem c_isScalar (l : Launch) (D : va_G) (kA : Nat → ClassId) (N0 : Nat) (M : xM) (x : Int32) : cI l yX5_isScalar wsX5_isScalar (xR 0) [.int x] D kA N0 M (fun v M1 => M1 = M ∧ ((v = 1 ∧ isSc x) ∨ (v = 0 ∧ ¬ isSc x))) := by
  refine r_met (cc := cX5_isScalar) (maxL := 1) (ret := (some .boolean)) (by decide) rfl (Nat.le_of_ble_eq_true rfl) ?_
  intro p e s m below meth c ls C hM hnm hl
  obtain ⟨hx, hb, hml, hown, hts, hr, hlocks, hK, hN⟩ := _root_.id C
  have hS : va_S (xA N0) s.heap s.heap [] := va_S.rf
  have hl : lv_has ls 1 [(0, .int x)] := hl
  refine lv_iload_n hx hb dX5_isScalar_0 rfl (lv_at hl 0 rfl) ?_
  refine lv_bipush (v := nI 12) hx hb dX5_isScalar_1 (by decide) ?_
  refine lv_icmp_lt (tgt := 16) hx hb dX5_isScalar_3 (by decide) (fun hc => ?_) (fun hc => ?_)
  · rw [ilt, t_12] at hc
    refine lv_iconst (v := nI 0) hx hb dX5_isScalar_16 (by decide) ?_
    exact r_zret C hM hS rfl (⟨rfl, Or.inr ⟨rfl, fun q => by omega⟩⟩) dX5_isScalar_17
  · rw [ilt, t_12] at hc
    refine lv_iload_n hx hb dX5_isScalar_6 rfl (lv_at hl 0 rfl) ?_
    refine lv_bipush (v := nI 20) hx hb dX5_isScalar_7 (by decide) ?_
    refine lv_icmp_ge (tgt := 16) hx hb dX5_isScalar_9 (by decide) (fun hd => ?_) (fun hd => ?_)
    · rw [ile, t_20] at hd
      refine lv_iconst (v := nI 0) hx hb dX5_isScalar_16 (by decide) ?_
      exact r_zret C hM hS rfl (⟨rfl, Or.inr ⟨rfl, fun q => by omega⟩⟩) dX5_isScalar_17
    · rw [ile, t_20] at hd
      refine lv_iconst (v := nI 1) hx hb dX5_isScalar_12 (by decide) ?_
      refine lv_goto (tgt := 17) hx hb dX5_isScalar_13 (by decide) ?_
      exact r_zret C hM hS rfl (⟨rfl, Or.inl ⟨rfl, by omega⟩⟩) dX5_isScalar_17
set_option maxRecDepth 100000 in
theorem c_pointIn (l : Launch) (D : va_G) (kA : Nat → ClassId) (N0 : Nat) (M : xM) (h sl : Nat) (S : St) (d : Dc kA M h S) (h4 : 4 ≤ sl) (hs : sl < 12) : cR l yX5_pointIn wsX5_pointIn (xR 0) [.ref h, .int (nI sl)] D kA N0 M (fun q => q.1 = M ∧ q.2 = (h + 7 + 3 * (sl - 4))) := by
  have hob := d.ob
  obtain ⟨f, hf, hfi⟩ := d.q2
  have hi := hfi (sl - 4) (by omega)
  refine r_met (cc := cX5_pointIn) (maxL := 2) (ret := (some (.object "LimbCurves$Point"))) (by decide) rfl (Nat.le_of_ble_eq_true rfl) ?_
  intro p e s m below meth c ls C hM hnm hl
  obtain ⟨hx, hb, hml, hown, hts, hr, hlocks, hK, hN⟩ := _root_.id C
  have hS : va_S (xA N0) s.heap s.heap [] := va_S.rf
  have hl : lv_has ls 2 [(0, .ref h), (1, .int (nI sl))] := hl
  refine lv_aload_n hx hb dX5_pointIn_0 rfl (lv_at hl 0 rfl) ?_
  refine x_get (v := .ref (h + 6)) hx hb hts in_X5_pointIn_X5 hown hK hM (hob) rfl 2 (by decide) (hts (.fieldLink RX5 29 "LimbCurves" "points" "[LLimbCurves$Point;") (by decide +kernel)) (fun _ h9 => h9) rfl dX5_pointIn_1 ?_
  refine lv_iload_n hx hb dX5_pointIn_4 rfl (lv_at hl 1 rfl) ?_
  refine lv_iconst (v := nI 4) hx hb dX5_pointIn_5 (by decide) ?_
  refine r_isubN C (by omega) dX5_pointIn_6 ?_
  refine r_aald (t0 := 2) C hM (hf) rfl rfl (by omega) (by omega) (hi) dX5_pointIn_7 ?_
  refine r_aretQ (Or.inl ⟨_, rfl⟩) C hM hS ?_ dX5_pointIn_8
  exact ⟨rfl, rfl⟩
set_option maxRecDepth 100000 in
theorem c_scalarIn (l : Launch) (D : va_G) (kA : Nat → ClassId) (N0 : Nat) (M : xM) (h sl : Nat) (S : St) (d : Dc kA M h S) (h4 : 12 ≤ sl) (hs : sl < 20) : cR l yX5_scalarIn wsX5_scalarIn (xR 0) [.ref h, .int (nI sl)] D kA N0 M (fun q => q.1 = M ∧ q.2 = (h + 32 + (sl - 12))) := by
  have hob := d.ob
  obtain ⟨f, hf, hfi⟩ := d.q3
  have hi := hfi (sl - 12) (by omega)
  refine r_met (cc := cX5_scalarIn) (maxL := 2) (ret := (some (.array .int))) (by decide) rfl (Nat.le_of_ble_eq_true rfl) ?_
  intro p e s m below meth c ls C hM hnm hl
  obtain ⟨hx, hb, hml, hown, hts, hr, hlocks, hK, hN⟩ := _root_.id C
  have hS : va_S (xA N0) s.heap s.heap [] := va_S.rf
  have hl : lv_has ls 2 [(0, .ref h), (1, .int (nI sl))] := hl
  refine lv_aload_n hx hb dX5_scalarIn_0 rfl (lv_at hl 0 rfl) ?_
  refine x_get (v := .ref (h + 31)) hx hb hts in_X5_scalarIn_X5 hown hK hM (hob) rfl 3 (by decide) (hts (.fieldLink RX5 36 "LimbCurves" "scalars" "[[I") (by decide +kernel)) (fun _ h9 => h9) rfl dX5_scalarIn_1 ?_
  refine lv_iload_n hx hb dX5_scalarIn_4 rfl (lv_at hl 1 rfl) ?_
  refine lv_bipush (v := nI 12) hx hb dX5_scalarIn_5 (by decide) ?_
  refine r_isubN C (by omega) dX5_scalarIn_7 ?_
  refine r_aald (t0 := 3) C hM (hf) rfl rfl (by omega) (by omega) (hi) dX5_scalarIn_8 ?_
  refine r_aretQ (Or.inr ⟨_, rfl⟩) C hM hS ?_ dX5_scalarIn_9
  exact ⟨rfl, rfl⟩
theorem t_nI {n : Nat} (h : n < 2147483648) : (nI n).toInt = n := nI_toInt (by omega)
set_option maxRecDepth 100000 in
theorem c_limbsOf (l : Launch) (D : va_G) (kA : Nat → ClassId) (N0 : Nat) (M : xM) (h sl : Nat) (S : St) (d : Dc kA M h S) (hs : sl < 20) (hL : S.L ≤ 9) : cI l yX5_limbsOf wsX5_limbsOf (xR 1) [.ref h, .int (nI sl)] D kA N0 M (fun v M1 => M1 = M ∧ v = nI (lim S sl)) := by
  have hob := d.ob
  have ht := t_nI (n := sl) (by omega)
  refine r_met (cc := cX5_limbsOf) (maxL := 2) (ret := (some .int)) (by decide) rfl (Nat.le_of_ble_eq_true rfl) ?_
  intro p e s m below meth c ls C hM hnm hl
  obtain ⟨hx, hb, hml, hown, hts, hr, hlocks, hK, hN⟩ := _root_.id C
  have hS : va_S (xA N0) s.heap s.heap [] := va_S.rf
  have hl : lv_has ls 2 [(0, .ref h), (1, .int (nI sl))] := hl
  refine lv_iload_n hx hb dX5_limbsOf_0 rfl (lv_at hl 1 rfl) ?_
  refine r_Si (As := [.int (nI sl)]) (rest := []) C hM hS (c_isPoint l D kA N0 M (nI sl)) gX5_limbsOf_X5_isPoint rfl rfl rfl ⟨by decide +kernel, by decide +kernel, (by decide +kernel : (parseMethodDescriptor yX5_isPoint.desc).map (fun d => d.parameters.length) = some 1)⟩ ⟨Nat.le_of_ble_eq_true rfl, Nat.le_of_ble_eq_true rfl⟩ hl.1 rfl (Nat.le_of_ble_eq_true rfl) dX5_limbsOf_1 ⟨Nat.le_of_ble_eq_true rfl, Nat.le_of_ble_eq_true rfl⟩ (fun v M1 H locs hp hM hS => ?_)
  obtain ⟨eM, hv⟩ := hp
  rw [eM] at hM
  unfold lim
  refine lv_if_eq (tgt := 16) hx hb dX5_limbsOf_4 (by decide) (fun hc => ?_) (fun hc => ?_)
  · have hn : ¬ (4 ≤ sl ∧ sl < 12) := by
      rcases hv with ⟨h1, h2⟩ | ⟨h1, h2⟩
      · rw [h1] at hc; exact absurd hc (by decide)
      · unfold isPo at h2; rw [ht] at h2; omega
    refine lv_aload_n hx hb dX5_limbsOf_16 rfl (lv_at hl 0 rfl) ?_
    refine x_get (v := .int (nI S.L)) hx hb hts in_X5_limbsOf_X5 hown hK hM (hob) rfl 0 (by decide) (hts (.fieldLink RX5 18 "LimbCurves" "limbs" "I") (by decide +kernel)) (fun _ h9 => h9) rfl dX5_limbsOf_17 ?_
    exact r_iret C hM hS (⟨rfl, by rw [if_neg hn]⟩) dX5_limbsOf_20
  · have hn : 4 ≤ sl ∧ sl < 12 := by
      rcases hv with ⟨h1, h2⟩ | ⟨h1, h2⟩
      · unfold isPo at h2; rw [ht] at h2; omega
      · exact absurd h1 hc
    refine lv_iconst (v := nI 2) hx hb dX5_limbsOf_7 (by decide) ?_
    refine lv_aload_n hx hb dX5_limbsOf_8 rfl (lv_at hl 0 rfl) ?_
    refine x_get (v := .int (nI S.L)) hx hb hts in_X5_limbsOf_X5 hown hK hM (hob) rfl 0 (by decide) (hts (.fieldLink RX5 18 "LimbCurves" "limbs" "I") (by decide +kernel)) (fun _ h9 => h9) rfl dX5_limbsOf_9 ?_
    refine r_imulN C dX5_limbsOf_12 ?_
    refine lv_goto (tgt := 20) hx hb dX5_limbsOf_13 (by decide) ?_
    exact r_iret C hM hS (⟨rfl, by rw [if_pos hn]⟩) dX5_limbsOf_20
set_option maxRecDepth 100000 in
theorem c_placeInRow (l : Launch) (D : va_G) (kA : Nat → ClassId) (N0 : Nat) (M : xM) (h i : Nat) (S : St) (d : Dc kA M h S) (hi : i < 100) (hL : S.L ≤ 9) : cI l yX5_placeInRow wsX5_placeInRow (xR 0) [.ref h, .int (nI i)] D kA N0 M (fun v M1 => M1 = M ∧ v = nI (if i < S.L then i else i - S.L)) := by
  have hob := d.ob
  refine r_met (cc := cX5_placeInRow) (maxL := 2) (ret := (some .int)) (by decide) rfl (Nat.le_of_ble_eq_true rfl) ?_
  intro p e s m below meth c ls C hM hnm hl
  obtain ⟨hx, hb, hml, hown, hts, hr, hlocks, hK, hN⟩ := _root_.id C
  have hS : va_S (xA N0) s.heap s.heap [] := va_S.rf
  have hl : lv_has ls 2 [(0, .ref h), (1, .int (nI i))] := hl
  refine lv_iload_n hx hb dX5_placeInRow_0 rfl (lv_at hl 1 rfl) ?_
  refine lv_aload_n hx hb dX5_placeInRow_1 rfl (lv_at hl 0 rfl) ?_
  refine x_get (v := .int (nI S.L)) hx hb hts in_X5_placeInRow_X5 hown hK hM (hob) rfl 0 (by decide) (hts (.fieldLink RX5 18 "LimbCurves" "limbs" "I") (by decide +kernel)) (fun _ h9 => h9) rfl dX5_placeInRow_2 ?_
  refine r_icmp_geN (tgt := 12) C (by omega) (by omega) dX5_placeInRow_5 (by decide) (fun hc => ?_) (fun hc => ?_)
  · refine lv_iload_n hx hb dX5_placeInRow_12 rfl (lv_at hl 1 rfl) ?_
    refine lv_aload_n hx hb dX5_placeInRow_13 rfl (lv_at hl 0 rfl) ?_
    refine x_get (v := .int (nI S.L)) hx hb hts in_X5_placeInRow_X5 hown hK hM (hob) rfl 0 (by decide) (hts (.fieldLink RX5 18 "LimbCurves" "limbs" "I") (by decide +kernel)) (fun _ h9 => h9) rfl dX5_placeInRow_14 ?_
    refine r_isubN C (by omega) dX5_placeInRow_17 ?_
    exact r_iret C hM hS (⟨rfl, by rw [if_neg (by omega)]⟩) dX5_placeInRow_18
  · refine lv_iload_n hx hb dX5_placeInRow_8 rfl (lv_at hl 1 rfl) ?_
    refine lv_goto (tgt := 18) hx hb dX5_placeInRow_9 (by decide) ?_
    exact r_iret C hM hS (⟨rfl, by rw [if_pos (by omega)]⟩) dX5_placeInRow_18
set_option maxRecDepth 100000 in
theorem c_rowOf (l : Launch) (D : va_G) (kA : Nat → ClassId) (N0 : Nat) (M : xM) (h sl i : Nat) (S : St) (d : Dc kA M h S) (hs : sl < 20) (hi : i < 100) (hL : S.L ≤ 9) : cR l yX5_rowOf wsX5_rowOf (xR 1) [.ref h, .int (nI sl), .int (nI i)] D kA N0 M (fun q => q.1 = M ∧ q.2 = (if sl < 4 then h + 2 + sl else if 12 ≤ sl then (h + 32 + (sl - 12)) else if i < S.L then (h + 7 + 3 * (sl - 4)) + 1 else (h + 7 + 3 * (sl - 4)) + 2)) := by
  have hob := d.ob
  have ht := t_nI (n := sl) (by omega)
  refine r_met (cc := cX5_rowOf) (maxL := 3) (ret := (some (.array .int))) (by decide) rfl (Nat.le_of_ble_eq_true rfl) ?_
  intro p e s m below meth c ls C hM hnm hl
  obtain ⟨hx, hb, hml, hown, hts, hr, hlocks, hK, hN⟩ := _root_.id C
  have hS : va_S (xA N0) s.heap s.heap [] := va_S.rf
  have hl : lv_has ls 3 [(0, .ref h), (1, .int (nI sl)), (2, .int (nI i))] := hl
  refine lv_iload_n hx hb dX5_rowOf_0 rfl (lv_at hl 1 rfl) ?_
  refine r_Si (As := [.int (nI sl)]) (rest := []) C hM hS (c_isParameter l D kA N0 M (nI sl)) gX5_rowOf_X5_isParameter rfl rfl rfl ⟨by decide +kernel, by decide +kernel, (by decide +kernel : (parseMethodDescriptor yX5_isParameter.desc).map (fun d => d.parameters.length) = some 1)⟩ ⟨Nat.le_of_ble_eq_true rfl, Nat.le_of_ble_eq_true rfl⟩ hl.1 rfl (Nat.le_of_ble_eq_true rfl) dX5_rowOf_1 ⟨Nat.le_of_ble_eq_true rfl, Nat.le_of_ble_eq_true rfl⟩ (fun v M1 H locs hp hM hS => ?_)
  obtain ⟨eM, hv⟩ := hp
  rw [eM] at hM
  refine lv_if_eq (tgt := 14) hx hb dX5_rowOf_4 (by decide) (fun hc => ?_) (fun hc => ?_)
  · have hn : ¬ sl < 4 := by
      rcases hv with ⟨h1, h2⟩ | ⟨h1, h2⟩
      · rw [h1] at hc; exact absurd hc (by decide)
      · unfold isPa at h2; rw [ht] at h2; omega
    refine lv_iload_n hx hb dX5_rowOf_14 rfl (lv_at hl 1 rfl) ?_
    refine r_Si (As := [.int (nI sl)]) (rest := []) C hM hS (c_isScalar l D kA N0 M (nI sl)) gX5_rowOf_X5_isScalar rfl rfl rfl ⟨by decide +kernel, by decide +kernel, (by decide +kernel : (parseMethodDescriptor yX5_isScalar.desc).map (fun d => d.parameters.length) = some 1)⟩ ⟨Nat.le_of_ble_eq_true rfl, Nat.le_of_ble_eq_true rfl⟩ hl.1 rfl (Nat.le_of_ble_eq_true rfl) dX5_rowOf_15 ⟨Nat.le_of_ble_eq_true rfl, Nat.le_of_ble_eq_true rfl⟩ (fun v2 M2 H locs hp hM hS => ?_)
    obtain ⟨eM2, hv2⟩ := hp
    rw [eM2] at hM
    refine lv_if_eq (tgt := 27) hx hb dX5_rowOf_18 (by decide) (fun hc2 => ?_) (fun hc2 => ?_)
    · have hn2 : ¬ 12 ≤ sl := by
        rcases hv2 with ⟨h1, h2⟩ | ⟨h1, h2⟩
        · rw [h1] at hc2; exact absurd hc2 (by decide)
        · unfold isSc at h2; rw [ht] at h2; omega
      have hpo := d.po (s := sl) (by omega) (by omega)
      have hq := hpo.1
      refine lv_iload_n hx hb dX5_rowOf_27 rfl (lv_at hl 2 rfl) ?_
      refine lv_aload_n hx hb dX5_rowOf_28 rfl (lv_at hl 0 rfl) ?_
      refine x_get (v := .int (nI S.L)) hx hb hts in_X5_rowOf_X5 hown hK hM (hob) rfl 0 (by decide) (hts (.fieldLink RX5 18 "LimbCurves" "limbs" "I") (by decide +kernel)) (fun _ h9 => h9) rfl dX5_rowOf_29 ?_
      refine r_icmp_geN (tgt := 46) C (by omega) (by omega) dX5_rowOf_32 (by decide) (fun hc3 => ?_) (fun hc3 => ?_)
      · refine lv_aload_n hx hb dX5_rowOf_46 rfl (lv_at hl 0 rfl) ?_
        refine lv_iload_n hx hb dX5_rowOf_47 rfl (lv_at hl 1 rfl) ?_
        refine r_VrQ (As := [.int (nI sl)]) (rest := []) C hM hS (c_pointIn l D kA N0 M h sl S d (by omega) (by omega)) (hob) rfl gX5_rowOf_X5_pointIn rfl rfl rfl ⟨rfl, by decide +kernel, by decide +kernel, (by decide +kernel : (parseMethodDescriptor yX5_pointIn.desc).map (fun d => d.parameters.length) = some 1)⟩ ⟨Nat.le_of_ble_eq_true rfl, Nat.le_of_ble_eq_true rfl⟩ hl.1 rfl (Nat.le_of_ble_eq_true rfl) dX5_rowOf_48 ⟨Nat.le_of_ble_eq_true rfl, Nat.le_of_ble_eq_true rfl⟩ (fun ra M3 H locs hp hM hS => ?_)
        obtain ⟨eM3, era⟩ := hp
        have eM3 : M3 = M := eM3
        have era : ra = (h + 7 + 3 * (sl - 4)) := era
        rw [eM3] at hM
        rw [era]
        refine x_get (v := .ref ((h + 7 + 3 * (sl - 4)) + 2)) hx hb hts in_X5_rowOf_X2 hown hK hM (hq) rfl 1 (by decide) (hts (.fieldLink RX5 201 "LimbCurves$Point" "y" "[I") (by decide +kernel)) (fun _ h9 => h9) rfl dX5_rowOf_51 ?_
        refine r_aretQ (Or.inr ⟨_, rfl⟩) C hM hS ?_ dX5_rowOf_54
        exact ⟨rfl, by rw [if_neg hn, if_neg hn2, if_neg (by omega)]⟩
      · refine lv_aload_n hx hb dX5_rowOf_35 rfl (lv_at hl 0 rfl) ?_
        refine lv_iload_n hx hb dX5_rowOf_36 rfl (lv_at hl 1 rfl) ?_
        refine r_VrQ (As := [.int (nI sl)]) (rest := []) C hM hS (c_pointIn l D kA N0 M h sl S d (by omega) (by omega)) (hob) rfl gX5_rowOf_X5_pointIn rfl rfl rfl ⟨rfl, by decide +kernel, by decide +kernel, (by decide +kernel : (parseMethodDescriptor yX5_pointIn.desc).map (fun d => d.parameters.length) = some 1)⟩ ⟨Nat.le_of_ble_eq_true rfl, Nat.le_of_ble_eq_true rfl⟩ hl.1 rfl (Nat.le_of_ble_eq_true rfl) dX5_rowOf_37 ⟨Nat.le_of_ble_eq_true rfl, Nat.le_of_ble_eq_true rfl⟩ (fun ra M3 H locs hp hM hS => ?_)
        obtain ⟨eM3, era⟩ := hp
        have eM3 : M3 = M := eM3
        have era : ra = (h + 7 + 3 * (sl - 4)) := era
        rw [eM3] at hM
        rw [era]
        refine x_get (v := .ref ((h + 7 + 3 * (sl - 4)) + 1)) hx hb hts in_X5_rowOf_X2 hown hK hM (hq) rfl 0 (by decide) (hts (.fieldLink RX5 186 "LimbCurves$Point" "x" "[I") (by decide +kernel)) (fun _ h9 => h9) rfl dX5_rowOf_40 ?_
        refine lv_goto (tgt := 54) hx hb dX5_rowOf_43 (by decide) ?_
        refine r_aretQ (Or.inr ⟨_, rfl⟩) C hM hS ?_ dX5_rowOf_54
        exact ⟨rfl, by rw [if_neg hn, if_neg hn2, if_pos (by omega)]⟩
    · have hn2 : 12 ≤ sl := by
        rcases hv2 with ⟨h1, h2⟩ | ⟨h1, h2⟩
        · unfold isSc at h2; rw [ht] at h2; omega
        · exact absurd h1 hc2
      refine lv_aload_n hx hb dX5_rowOf_21 rfl (lv_at hl 0 rfl) ?_
      refine lv_iload_n hx hb dX5_rowOf_22 rfl (lv_at hl 1 rfl) ?_
      refine r_VrQ (As := [.int (nI sl)]) (rest := []) C hM hS (c_scalarIn l D kA N0 M h sl S d (by omega) (by omega)) (hob) rfl gX5_rowOf_X5_scalarIn rfl rfl rfl ⟨rfl, by decide +kernel, by decide +kernel, (by decide +kernel : (parseMethodDescriptor yX5_scalarIn.desc).map (fun d => d.parameters.length) = some 1)⟩ ⟨Nat.le_of_ble_eq_true rfl, Nat.le_of_ble_eq_true rfl⟩ hl.1 rfl (Nat.le_of_ble_eq_true rfl) dX5_rowOf_23 ⟨Nat.le_of_ble_eq_true rfl, Nat.le_of_ble_eq_true rfl⟩ (fun ra M3 H locs hp hM hS => ?_)
      obtain ⟨eM3, era⟩ := hp
      have eM3 : M3 = M := eM3
      have era : ra = (h + 32 + (sl - 12)) := era
      rw [eM3] at hM
      rw [era]
      refine r_aretQ (Or.inr ⟨_, rfl⟩) C hM hS ?_ dX5_rowOf_26
      exact ⟨rfl, by rw [if_neg hn, if_pos hn2]⟩
  · have hn : sl < 4 := by
      rcases hv with ⟨h1, h2⟩ | ⟨h1, h2⟩
      · unfold isPa at h2; rw [ht] at h2; omega
      · exact absurd h1 hc
    obtain ⟨f, hf, hfi⟩ := d.q1
    have hfs := hfi sl hn
    refine lv_aload_n hx hb dX5_rowOf_7 rfl (lv_at hl 0 rfl) ?_
    refine x_get (v := .ref (h + 1)) hx hb hts in_X5_rowOf_X5 hown hK hM (hob) rfl 1 (by decide) (hts (.fieldLink RX5 24 "LimbCurves" "parameters" "[[I") (by decide +kernel)) (fun _ h9 => h9) rfl dX5_rowOf_8 ?_
    refine lv_iload_n hx hb dX5_rowOf_11 rfl (lv_at hl 1 rfl) ?_
    refine r_aald (t0 := 3) C hM (hf) rfl rfl (by omega) (by omega) (hfs) dX5_rowOf_12 ?_
    refine r_aretQ (Or.inr ⟨_, rfl⟩) C hM hS ?_ dX5_rowOf_13
    exact ⟨rfl, by rw [if_pos hn]⟩
set_option maxRecDepth 100000 in
theorem c_endFeeding (l : Launch) (D : va_G) (kA : Nat → ClassId) (N0 : Nat) (M : xM) (h sl : Nat) (S : St) (d : Dc kA M h S) (hs : sl < 20) : cV l yX5_endFeeding wsX5_endFeeding (xR 0) [.ref h, .int (nI sl)] D kA N0 M (fun M1 => Dc kA M1 h (endf S sl) ∧ ∀ b, b ≠ h → M1 b = M b) := by
  have hob := d.ob
  refine r_met (cc := cX5_endFeeding) (maxL := 2) (ret := none) (by decide) rfl (Nat.le_of_ble_eq_true rfl) ?_
  intro p e s m below meth c ls C hM hnm hl
  obtain ⟨hx, hb, hml, hown, hts, hr, hlocks, hK, hN⟩ := _root_.id C
  have hS : va_S (xA N0) s.heap s.heap [] := va_S.rf
  have hl : lv_has ls 2 [(0, .ref h), (1, .int (nI sl))] := hl
  refine lv_aload_n hx hb dX5_endFeeding_0 rfl (lv_at hl 0 rfl) ?_
  refine x_get (v := .int (fedV S)) hx hb hts in_X5_endFeeding_X5 hown hK hM (hob) rfl 11 (by decide) (hts (.fieldLink RX5 79 "LimbCurves" "fedSlot" "I") (by decide +kernel)) (fun _ h9 => h9) rfl dX5_endFeeding_1 ?_
  refine lv_iload_n hx hb dX5_endFeeding_4 rfl (lv_at hl 1 rfl) ?_
  refine lv_icmp_ne (tgt := 18) hx hb dX5_endFeeding_5 (by decide) (fun hc => ?_) (fun hc => ?_)
  · have hne : S.fed ≠ sl := fun q => hc ((fedV_eq hs).mpr q)
    exact r_vret C hM hS (⟨by rw [endf_n hne]; exact d, fun _ _ => rfl⟩) dX5_endFeeding_18
  · have he : S.fed = sl := (fedV_eq hs).mp hc
    refine lv_aload_n hx hb dX5_endFeeding_8 rfl (lv_at hl 0 rfl) ?_
    refine lv_iconst (v := (-1)) hx hb dX5_endFeeding_9 (by decide) ?_
    refine x_put (v := .int (-1)) (ty := .int) hx hb hts in_X5_endFeeding_X5 tyX5 tyX5_ok nmX5 hown hK hM hS (hob) rfl 11 (by decide) (hts (.fieldLink RX5 79 "LimbCurves" "fedSlot" "I") (by decide +kernel)) (fun _ h9 => h9) rfl (by decide +kernel) rfl rfl (Nat.le_of_ble_eq_true rfl) dX5_endFeeding_10 (fun H locs hM hS => ?_)
    have hM : xW D vwCl N0 (xset M h (oLc h (nI S.L) (nI S.sealed) (-1) (nI S.fl))) H := hM
    refine lv_aload_n hx hb dX5_endFeeding_13 rfl (lv_at hl 0 rfl) ?_
    refine lv_iconst (v := nI 0) hx hb dX5_endFeeding_14 (by decide) ?_
    refine x_put (v := .int (nI 0)) (ty := .int) hx hb hts in_X5_endFeeding_X5 tyX5 tyX5_ok nmX5 hown hK hM hS (xset_s) rfl 12 (by decide) (hts (.fieldLink RX5 82 "LimbCurves" "fedLimbs" "I") (by decide +kernel)) (fun _ h9 => h9) rfl (by decide +kernel) rfl rfl (Nat.le_of_ble_eq_true rfl) dX5_endFeeding_15 (fun H locs hM hS => ?_)
    rw [xset_xset] at hM
    have hM : xW D vwCl N0 (xset M h (oLc h (nI S.L) (nI S.sealed) (-1) (nI 0))) H := hM
    exact r_vret C hM hS (⟨by rw [endf_y he]; exact d.fld rfl rfl rfl rfl, fun b hb => xset_n hb⟩) dX5_endFeeding_18
end SML
