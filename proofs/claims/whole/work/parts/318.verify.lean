theorem in_X5_verify_X2 : ∀ w ∈ wsX20, w ∈ wsX5_verify := by decide +kernel
theorem in_X5_verify_X5 : ∀ w ∈ wsX50, w ∈ wsX5_verify := by decide +kernel
theorem isPz.pt {kA : Nat → ClassId} {M : xM} {q L k : Nat} {P : Pt k} (h : isPz kA M q L k P) : isPt kA M q L k P := by
  cases P with
  | none => exact ⟨0, 0, 1, h.1, h.2.1, h.2.2, Or.inl ⟨rfl, rfl⟩⟩
  | some P =>
    obtain ⟨x, y⟩ := P
    exact ⟨x.val, y.val, 0, h.1, h.2.1, h.2.2, Or.inr ⟨rfl, x.isLt, y.isLt, by rw [fz_of, fz_of]⟩⟩
theorem isPz.sh {kA : Nat → ClassId} {M : xM} {q L k : Nat} {P : Pt k} (h : isPz kA M q L k P) : (∃ d, M q = some (oPt q d)) ∧ isA kA M (q + 1) L ∧ isA kA M (q + 2) L := by
  cases P with
  | none => exact ⟨⟨_, h.1⟩, h.2.1.isA, h.2.2.isA⟩
  | some P => obtain ⟨x, y⟩ := P; exact ⟨⟨_, h.1⟩, h.2.1.isA, h.2.2.isA⟩
def verT {k : Nat} (n rv : Nat) (T : Pt k) : Int32 := match T with
  | none => 0
  | some (X, _) => if X.val % n = rv then 1 else 0
section VER
variable {p : Program} {l : Launch} {e : Env} {R : Room} {s : State} {m : MethodId} {args : Array Value} {below : List Frame} {meth : Method} {c : Code} {Q : State → Prop} {cells slots : Nat} {ret : Option FieldType} {D : va_G} {kA : Nat → ClassId} {N0 : Nat}
set_option maxRecDepth 100000 in
theorem ve_165 {M5 : xM} {h iq ig ir n rv E2 R2 : Nat} {S : St} {H : Heap} {locs : List Loc} {ls : Array Slot} {x3 x4 x5 : Int32} {post : Int32 → xM → Prop} (C : xC p s m args meth c cX5_verify 7 (some .int) RX5 wsX5_verify D vwCl (xT kA) N0) (hM : xW D vwCl N0 M5 H) (hS : va_S (xA N0) s.heap H locs) (hl : lv_has ls 7 [(6, .ref ((h + 32 + (ir - 12)))), (0, .ref h), (1, .int (nI iq)), (2, .int (nI ig)), (3, .int x3), (4, .int x4), (5, .int x5)]) (hsi : Si S) (hs1 : S.sealed = 1) (d5 : Dc kA M5 h S) (ds5 : Ds kA M5 h S.L 1 (S.a 0)) (hlf : isN kA M5 (h + 71) S.L E2) (hrt : isN kA M5 (h + 72) S.L R2) (hro : Rs kA M5 (h + 40) S.L n) (h13 : isA kA M5 (h + 43) (2 * S.L + 1)) (hq1 : 4 ≤ iq) (hq2 : iq < 12) (hg1 : 4 ≤ ig) (hg2 : ig < 12) (hr1 : 12 ≤ ir) (hr2 : ir < 20) (honq : on S iq) (hong : on S ig) (hrv : rv = S.a ir)
    (hpost : ∀ (v : Int32) (M1 : xM), v = verR n rv (fz (kp S) (S.a 1)) (kT (fz (kp S) (S.a 1)) (pt S ig) E2) (kT (fz (kp S) (S.a 1)) (pt S iq) R2) → Dk kA M1 h S → (∀ b, b < h ∨ h + 75 < b → M1 b = M5 b) → post v M1) : W p l e (xR 6) s m args below meth c H locs 0 0 (MQ below (va_Qi post (xB D vwCl (xT kA) N0) (xA N0)) args s 0 0 (xA N0)) (F0 m 165 ls []) := by
  have hob5 := d5.ob
  have hL0 := hsi.L1
  have hL9 := hsi.L9
  have hgd := hsi.sg hs1
  have hg3 := hgd.2.1
  have hk : kp S + 1 = S.a 0 := by show S.a 0 - 1 + 1 = S.a 0; omega
  have hk0 : 0 < kp S := by show 0 < S.a 0 - 1; omega
  have hodd : (kp S + 1) % 2 = 1 := by rw [hk]; exact hgd.1
  have hAb : S.a 1 < kp S + 1 := by rw [hk]; exact hgd.2.2.1
  have hA : isN kA M5 (h + 3) S.L (S.a 1) := d5.pa (s := 1) (by omega)
  obtain ⟨id, hg⟩ := ds5.rg
  rw [← hk] at hg
  obtain ⟨ptq, onq⟩ := ptS_of d5 (hsi.prb _) hq1 hq2 (by omega) honq
  have hrn5 := hg.rn
  obtain ⟨sd5, hre5⟩ := ds5.2.2.2.2.2.2.2.2.2.1
  have hr74 := ds5.2.2.2.2.2.2.2.2.2.2.1
  have hr75 := ds5.2.2.2.2.2.2.2.2.2.2.2.1
  have hlt9 : ∀ x : Nat, x < BB ^ S.L → x < 2 ^ (31 * S.L) := fun x hx => by rw [BB_two] at hx; exact hx
  have hR2 := hlt9 _ hrt.lt
  have hE2 := hlt9 _ hlf.lt
  obtain ⟨hx, hb, hml, hown, hts, hr, hlocks, hK, hN⟩ := _root_.id C
  refine lv_aload_n hx hb dX5_verify_165 rfl (lv_at hl 1 rfl) ?_
  refine x_get (v := .ref (h + 61)) hx hb hts in_X5_verify_X5 hown hK hM (hob5) rfl 6 (by decide) (hts (.fieldLink RX5 60 "LimbCurves" "running" "LLimbCurves$RunningSum;") (by decide +kernel)) (fun _ h9 => h9) rfl dX5_verify_166 ?_
  refine lv_aload_n hx hb dX5_verify_169 rfl (lv_at hl 1 rfl) ?_
  refine x_get (v := .ref (h + 72)) hx hb hts in_X5_verify_X5 hown hK hM (hob5) rfl 8 (by decide) (hts (.fieldLink RX5 68 "LimbCurves" "right" "[I") (by decide +kernel)) (fun _ h9 => h9) rfl dX5_verify_170 ?_
  refine lv_aload_n hx hb dX5_verify_173 rfl (lv_at hl 1 rfl) ?_
  refine lv_iload_n hx hb dX5_verify_174 rfl (lv_at hl 2 rfl) ?_
  refine r_VrQ (As := [.int (nI iq)]) (rest := [.ref (h + 72), .ref (h + 61)]) C hM hS (c_pointIn l D kA N0 M5 h iq S d5 hq1 hq2) (hob5) rfl gX5_verify_X5_pointIn rfl rfl rfl ⟨rfl, by decide +kernel, by decide +kernel, (by decide +kernel : (parseMethodDescriptor yX5_pointIn.desc).map (fun d => d.parameters.length) = some 1)⟩ ⟨Nat.le_of_ble_eq_true rfl, Nat.le_of_ble_eq_true rfl⟩ hl.1 rfl (Nat.le_of_ble_eq_true rfl) dX5_verify_175 ⟨Nat.le_of_ble_eq_true rfl, Nat.le_of_ble_eq_true rfl⟩ (fun ra M6 H locs hp hM hS => ?_)
  obtain ⟨eM6, era⟩ := hp
  have eM6 : M6 = M5 := eM6
  have era : ra = (h + 7 + 3 * (iq - 4)) := era
  rw [eM6] at hM
  rw [era]
  refine r_Vv (As := [.ref (h + 72), .ref (h + 7 + 3 * (iq - 4))]) (rest := []) C hM hS (c_takeTimes l D kA N0 M5 h S.L (kp S) (S.a 1) (S.a 2) ((h + 7 + 3 * (iq - 4))) (h + 72) R2 id _ (pt S iq) hg hA hAb hodd hk0 ptq onq (by omega) hrt (by omega) (by omega) (by omega)) (hrn5) rfl gX5_verify_X4_takeTimes rfl rfl rfl ⟨rfl, by decide +kernel, by decide +kernel, (by decide +kernel : (parseMethodDescriptor yX4_takeTimes.desc).map (fun d => d.parameters.length) = some 2)⟩ ⟨Nat.le_of_ble_eq_true rfl, Nat.le_of_ble_eq_true rfl⟩ hl.1 rfl (Nat.le_of_ble_eq_true rfl) dX5_verify_178 ⟨Nat.le_of_ble_eq_true rfl, Nat.le_of_ble_eq_true rfl⟩ (fun M6 H locs hj6 hM hS => ?_)
  have hf6 := hj6.fr
  have d6 : Dc kA M6 h S := d5.kept (fun b b1 b2 => hf6 b (by omega))
  have hob6 := d6.ob
  obtain ⟨rd6, hrn6⟩ := hj6.rn
  refine lv_aload_n hx hb dX5_verify_181 rfl (lv_at hl 1 rfl) ?_
  refine x_get (v := .ref (h + 61)) hx hb hts in_X5_verify_X5 hown hK hM (hob6) rfl 6 (by decide) (hts (.fieldLink RX5 60 "LimbCurves" "running" "LLimbCurves$RunningSum;") (by decide +kernel)) (fun _ h9 => h9) rfl dX5_verify_182 ?_
  refine lv_aload_n hx hb dX5_verify_185 rfl (lv_at hl 1 rfl) ?_
  refine x_get (v := .ref (h + 73)) hx hb hts in_X5_verify_X5 hown hK hM (hob6) rfl 9 (by decide) (hts (.fieldLink RX5 71 "LimbCurves" "result" "LLimbCurves$Point;") (by decide +kernel)) (fun _ h9 => h9) rfl dX5_verify_186 ?_
  refine r_Vi (As := [.ref (h + 73)]) (rest := []) C hM hS (c_writeTo l D kA N0 M5 M6 h S.L (kp S) (h + 73) sd5 _ hj6 (by rw [hf6 _ (by omega)]; exact hre5) (hr74.kept (hf6 _ (by omega))) (hr75.kept (hf6 _ (by omega))) (by omega) (by omega) (by omega)) (hrn6) rfl gX5_verify_X4_writeTo rfl rfl rfl ⟨rfl, by decide +kernel, by decide +kernel, (by decide +kernel : (parseMethodDescriptor yX4_writeTo.desc).map (fun d => d.parameters.length) = some 1)⟩ ⟨Nat.le_of_ble_eq_true rfl, Nat.le_of_ble_eq_true rfl⟩ hl.1 rfl (Nat.le_of_ble_eq_true rfl) dX5_verify_189 ⟨Nat.le_of_ble_eq_true rfl, Nat.le_of_ble_eq_true rfl⟩ (fun v7 M7 H locs hp hM hS => ?_)
  obtain ⟨⟨gs7, id7, hg7⟩, hf7, hv7⟩ := hp
  have hfr7 : ∀ b, b < h + 49 ∨ (h + 70 < b ∧ b < h + 73) ∨ h + 75 < b ∨ (h + 58 ≤ b ∧ b ≤ h + 60) → M7 b = M5 b := fun b hb => by rw [hf7 b (by omega) (by omega), hf6 b (by omega)]
  have d7 : Dc kA M7 h S := d5.kept (fun b b1 b2 => hfr7 b (by omega))
  have hob7 := d7.ob
  have hsh7 : (∃ d, M7 (h + 73) = some (oPt (h + 73) d)) ∧ isA kA M7 (h + 74) S.L ∧ isA kA M7 (h + 75) S.L := by
    rcases hv7 with ⟨-, -, h3⟩ | ⟨-, P, -, h3⟩
    · exact ⟨⟨sd5, by rw [h3 _ (by omega) (by omega), hf6 _ (by omega)]; exact hre5⟩, hr74.kept (by rw [h3 _ (by omega) (by omega), hf6 _ (by omega)]), hr75.kept (by rw [h3 _ (by omega) (by omega), hf6 _ (by omega)])⟩
    · exact h3.sh
  have hg7a : RG kA M7 M7 h S.L (S.a 0) gs7 id7 := by rw [← hk]; exact hg7
  have ds7 : Ds kA M7 h S.L 1 (S.a 0) := ds5.ofRG hg7a (fun b b1 b2 b3 => hfr7 b (by omega)) hsh7.1 hsh7.2.1 hsh7.2.2
  rcases hv7 with ⟨ev7, er7, -⟩ | ⟨ev7, P, er7, hP⟩
  · rw [ev7]
    refine lv_if_ne (tgt := 198) hx hb dX5_verify_192 (by decide) (fun hc => ?_) (fun hc => ?_)
    · exact absurd rfl hc
    · have hres : (-2 : Int32) = verR n rv (fz (kp S) (S.a 1)) (kT (fz (kp S) (S.a 1)) (pt S ig) E2) (kT (fz (kp S) (S.a 1)) (pt S iq) R2) := by
        rw [er7]
        cases kT (fz (kp S) (S.a 1)) (pt S ig) E2 <;> rfl
      refine lv_bipush (v := (-2)) hx hb dX5_verify_195 (by decide) ?_
      exact r_iret C hM hS (hpost _ M7 hres ⟨hsi, d7, by rw [hs1]; exact ds7⟩ (fun b hb => hfr7 b (by omega))) dX5_verify_197
  · rw [ev7]
    refine lv_if_ne (tgt := 198) hx hb dX5_verify_192 (by decide) (fun hc => ?_) (fun hc => ?_)
    · obtain ⟨ptg, ong⟩ := ptS_of d7 (hsi.prb _) hg1 hg2 (by omega) hong
      have onP : onC (fz (kp S) (S.a 1)) (fz (kp S) (S.a 2)) P := kT_on onq _ _ _ hR2 er7
      have hrn7 := hg7.rn
      have hlf7 := hlf.kept (hfr7 (h + 71) (by omega))
      have hA7 := hA.kept (hfr7 (h + 3) (by omega))
      obtain ⟨id8, hg8⟩ := ds7.rg
      rw [← hk] at hg8
      refine lv_aload_n hx hb dX5_verify_198 rfl (lv_at hl 1 rfl) ?_
      refine x_get (v := .ref (h + 61)) hx hb hts in_X5_verify_X5 hown hK hM (hob7) rfl 6 (by decide) (hts (.fieldLink RX5 60 "LimbCurves" "running" "LLimbCurves$RunningSum;") (by decide +kernel)) (fun _ h9 => h9) rfl dX5_verify_199 ?_
      refine lv_aload_n hx hb dX5_verify_202 rfl (lv_at hl 1 rfl) ?_
      refine x_get (v := .ref (h + 71)) hx hb hts in_X5_verify_X5 hown hK hM (hob7) rfl 7 (by decide) (hts (.fieldLink RX5 64 "LimbCurves" "left" "[I") (by decide +kernel)) (fun _ h9 => h9) rfl dX5_verify_203 ?_
      refine lv_aload_n hx hb dX5_verify_206 rfl (lv_at hl 1 rfl) ?_
      refine lv_iload_n hx hb dX5_verify_207 rfl (lv_at hl 3 rfl) ?_
      refine r_VrQ (As := [.int (nI ig)]) (rest := [.ref (h + 71), .ref (h + 61)]) C hM hS (c_pointIn l D kA N0 M7 h ig S d7 hg1 hg2) (hob7) rfl gX5_verify_X5_pointIn rfl rfl rfl ⟨rfl, by decide +kernel, by decide +kernel, (by decide +kernel : (parseMethodDescriptor yX5_pointIn.desc).map (fun d => d.parameters.length) = some 1)⟩ ⟨Nat.le_of_ble_eq_true rfl, Nat.le_of_ble_eq_true rfl⟩ hl.1 rfl (Nat.le_of_ble_eq_true rfl) dX5_verify_208 ⟨Nat.le_of_ble_eq_true rfl, Nat.le_of_ble_eq_true rfl⟩ (fun rb M8 H locs hp hM hS => ?_)
      obtain ⟨eM8, erb⟩ := hp
      have eM8 : M8 = M7 := eM8
      have erb : rb = (h + 7 + 3 * (ig - 4)) := erb
      rw [eM8] at hM
      rw [erb]
      refine r_Vv (As := [.ref (h + 71), .ref (h + 7 + 3 * (ig - 4))]) (rest := []) C hM hS (c_takeTimes l D kA N0 M7 h S.L (kp S) (S.a 1) (S.a 2) ((h + 7 + 3 * (ig - 4))) (h + 71) E2 id8 _ (pt S ig) hg8 hA7 hAb hodd hk0 ptg ong (by omega) hlf7 (by omega) (by omega) (by omega)) (hrn7) rfl gX5_verify_X4_takeTimes rfl rfl rfl ⟨rfl, by decide +kernel, by decide +kernel, (by decide +kernel : (parseMethodDescriptor yX4_takeTimes.desc).map (fun d => d.parameters.length) = some 2)⟩ ⟨Nat.le_of_ble_eq_true rfl, Nat.le_of_ble_eq_true rfl⟩ hl.1 rfl (Nat.le_of_ble_eq_true rfl) dX5_verify_211 ⟨Nat.le_of_ble_eq_true rfl, Nat.le_of_ble_eq_true rfl⟩ (fun M8 H locs hj8 hM hS => ?_)
      have hf8 := hj8.fr
      have d8 : Dc kA M8 h S := d7.kept (fun b b1 b2 => hf8 b (by omega))
      have hob8 := d8.ob
      obtain ⟨rd8, hrn8⟩ := hj8.rn
      refine lv_aload_n hx hb dX5_verify_214 rfl (lv_at hl 1 rfl) ?_
      refine x_get (v := .ref (h + 61)) hx hb hts in_X5_verify_X5 hown hK hM (hob8) rfl 6 (by decide) (hts (.fieldLink RX5 60 "LimbCurves" "running" "LLimbCurves$RunningSum;") (by decide +kernel)) (fun _ h9 => h9) rfl dX5_verify_215 ?_
      refine lv_aload_n hx hb dX5_verify_218 rfl (lv_at hl 1 rfl) ?_
      refine x_get (v := .ref (h + 73)) hx hb hts in_X5_verify_X5 hown hK hM (hob8) rfl 9 (by decide) (hts (.fieldLink RX5 71 "LimbCurves" "result" "LLimbCurves$Point;") (by decide +kernel)) (fun _ h9 => h9) rfl dX5_verify_219 ?_
      refine r_Vv (As := [.ref (h + 73)]) (rest := []) C hM hS (c_addPoint l D kA N0 M7 M8 h S.L (kp S) (S.a 1) (S.a 2) (h + 73) _ P hj8 hA7 hAb hodd hk0 hP.pt onP (fun R hR => kT_on ong _ _ _ hE2 hR) (by omega) (by omega) (by omega)) (hrn8) rfl gX5_verify_X4_addPoint rfl rfl rfl ⟨rfl, by decide +kernel, by decide +kernel, (by decide +kernel : (parseMethodDescriptor yX4_addPoint.desc).map (fun d => d.parameters.length) = some 1)⟩ ⟨Nat.le_of_ble_eq_true rfl, Nat.le_of_ble_eq_true rfl⟩ hl.1 rfl (Nat.le_of_ble_eq_true rfl) dX5_verify_222 ⟨Nat.le_of_ble_eq_true rfl, Nat.le_of_ble_eq_true rfl⟩ (fun M9 H locs hj9 hM hS => ?_)
      have hf9 := hj9.fr
      have d9 : Dc kA M9 h S := d7.kept (fun b b1 b2 => hf9 b (by omega))
      have hob9 := d9.ob
      obtain ⟨rd9, hrn9⟩ := hj9.rn
      obtain ⟨⟨sd7, hre7⟩, hr74b, hr75b⟩ := hsh7
      refine lv_aload_n hx hb dX5_verify_225 rfl (lv_at hl 1 rfl) ?_
      refine x_get (v := .ref (h + 61)) hx hb hts in_X5_verify_X5 hown hK hM (hob9) rfl 6 (by decide) (hts (.fieldLink RX5 60 "LimbCurves" "running" "LLimbCurves$RunningSum;") (by decide +kernel)) (fun _ h9 => h9) rfl dX5_verify_226 ?_
      refine lv_aload_n hx hb dX5_verify_229 rfl (lv_at hl 1 rfl) ?_
      refine x_get (v := .ref (h + 73)) hx hb hts in_X5_verify_X5 hown hK hM (hob9) rfl 9 (by decide) (hts (.fieldLink RX5 71 "LimbCurves" "result" "LLimbCurves$Point;") (by decide +kernel)) (fun _ h9 => h9) rfl dX5_verify_230 ?_
      refine r_Vi (As := [.ref (h + 73)]) (rest := []) C hM hS (c_writeTo l D kA N0 M7 M9 h S.L (kp S) (h + 73) sd7 _ hj9 (by rw [hf9 _ (by omega)]; exact hre7) (hr74b.kept (hf9 _ (by omega))) (hr75b.kept (hf9 _ (by omega))) (by omega) (by omega) (by omega)) (hrn9) rfl gX5_verify_X4_writeTo rfl rfl rfl ⟨rfl, by decide +kernel, by decide +kernel, (by decide +kernel : (parseMethodDescriptor yX4_writeTo.desc).map (fun d => d.parameters.length) = some 1)⟩ ⟨Nat.le_of_ble_eq_true rfl, Nat.le_of_ble_eq_true rfl⟩ hl.1 rfl (Nat.le_of_ble_eq_true rfl) dX5_verify_233 ⟨Nat.le_of_ble_eq_true rfl, Nat.le_of_ble_eq_true rfl⟩ (fun v10 M10 H locs hp hM hS => ?_)
      obtain ⟨⟨gs10, id10, hg10⟩, hf10, hv10⟩ := hp
      have hfr10 : ∀ b, b < h + 49 ∨ (h + 70 < b ∧ b < h + 73) ∨ h + 75 < b ∨ (h + 58 ≤ b ∧ b ≤ h + 60) → M10 b = M5 b := fun b hb => by rw [hf10 b (by omega) (by omega), hf9 b (by omega)]; exact hfr7 b hb
      have d10 : Dc kA M10 h S := d5.kept (fun b b1 b2 => hfr10 b (by omega))
      have hob10 := d10.ob
      have hsh10 : (∃ d, M10 (h + 73) = some (oPt (h + 73) d)) ∧ isA kA M10 (h + 74) S.L ∧ isA kA M10 (h + 75) S.L := by
        rcases hv10 with ⟨-, -, h3⟩ | ⟨-, P, -, h3⟩
        · exact ⟨⟨sd7, by rw [h3 _ (by omega) (by omega), hf9 _ (by omega)]; exact hre7⟩, hr74b.kept (by rw [h3 _ (by omega) (by omega), hf9 _ (by omega)]), hr75b.kept (by rw [h3 _ (by omega) (by omega), hf9 _ (by omega)])⟩
        · exact h3.sh
      have hg10a : RG kA M10 M10 h S.L (S.a 0) gs10 id10 := by rw [← hk]; exact hg10
      have ds10 : Ds kA M10 h S.L 1 (S.a 0) := ds5.ofRG hg10a (fun b b1 b2 b3 => hfr10 b (by omega)) hsh10.1 hsh10.2.1 hsh10.2.2
      rcases hv10 with ⟨ev10, er10, -⟩ | ⟨ev10, T, er10, hT⟩
      · rw [ev10]
        refine lv_if_ne (tgt := 242) hx hb dX5_verify_236 (by decide) (fun hc2 => ?_) (fun hc2 => ?_)
        · exact absurd rfl hc2
        · have hres : (-2 : Int32) = verR n rv (fz (kp S) (S.a 1)) (kT (fz (kp S) (S.a 1)) (pt S ig) E2) (kT (fz (kp S) (S.a 1)) (pt S iq) R2) := by
            rw [er7]
            cases hG : kT (fz (kp S) (S.a 1)) (pt S ig) E2 with
            | none => rfl
            | some G =>
              rw [hG] at er10
              have er10 : psum (fz (kp S) (S.a 1)) G P = none := er10
              unfold verR
              dsimp only
              rw [er10]
          refine lv_bipush (v := (-2)) hx hb dX5_verify_239 (by decide) ?_
          exact r_iret C hM hS (hpost _ M10 hres ⟨hsi, d10, by rw [hs1]; exact ds10⟩ (fun b hb => hfr10 b (by omega))) dX5_verify_241
      · rw [ev10]
        refine lv_if_ne (tgt := 242) hx hb dX5_verify_236 (by decide) (fun hc2 => ?_) (fun hc2 => ?_)
        · have hro10 : Rs kA M10 (h + 40) S.L n := hro.kept (hfr10 _ (by omega)) (hfr10 _ (by omega)) (hfr10 _ (by omega))
          have h1310 := h13.kept (hfr10 (h + 43) (by omega))
          have hlf10 := hlf.kept (hfr10 (h + 71) (by omega))
          obtain ⟨z9, y9, hrf10⟩ := hro10.ob
          obtain ⟨dT, vX, hTo, hTx, hTd⟩ : ∃ dT vX : Nat, M10 (h + 73) = some (oPt (h + 73) (nI dT)) ∧ isN kA M10 (h + 74) S.L vX ∧ ((dT = 1 ∧ T = none) ∨ (dT = 0 ∧ ∃ X Y, T = some (X, Y) ∧ vX = X.val)) := by
            cases T with
            | none => exact ⟨1, 0, hT.1, hT.2.1, Or.inl ⟨rfl, rfl⟩⟩
            | some T => obtain ⟨X, Y⟩ := T; exact ⟨0, X.val, hT.1, hT.2.1, Or.inr ⟨rfl, X, Y, rfl, rfl⟩⟩
          refine lv_aload_n hx hb dX5_verify_242 rfl (lv_at hl 1 rfl) ?_
          refine x_get (v := .ref (h + 40)) hx hb hts in_X5_verify_X5 hown hK hM (hob10) rfl 4 (by decide) (hts (.fieldLink RX5 42 "LimbCurves" "order" "LLimbCurves$Residues;") (by decide +kernel)) (fun _ h9 => h9) rfl dX5_verify_243 ?_
          refine lv_aload_n hx hb dX5_verify_246 rfl (lv_at hl 1 rfl) ?_
          refine x_get (v := .ref (h + 71)) hx hb hts in_X5_verify_X5 hown hK hM (hob10) rfl 7 (by decide) (hts (.fieldLink RX5 64 "LimbCurves" "left" "[I") (by decide +kernel)) (fun _ h9 => h9) rfl dX5_verify_247 ?_
          refine lv_aload_n hx hb dX5_verify_250 rfl (lv_at hl 1 rfl) ?_
          refine x_get (v := .ref (h + 73)) hx hb hts in_X5_verify_X5 hown hK hM (hob10) rfl 9 (by decide) (hts (.fieldLink RX5 71 "LimbCurves" "result" "LLimbCurves$Point;") (by decide +kernel)) (fun _ h9 => h9) rfl dX5_verify_251 ?_
          refine x_get (v := .ref (h + 74)) hx hb hts in_X5_verify_X2 hown hK hM (hTo) rfl 0 (by decide) (hts (.fieldLink RX5 186 "LimbCurves$Point" "x" "[I") (by decide +kernel)) (fun _ h9 => h9) rfl dX5_verify_254 ?_
          refine r_Vv (As := [.ref (h + 71), .ref (h + 74)]) (rest := []) C hM hS (c_reduce l D kA N0 M10 (h + 40) S.L n (h + 71) (h + 74) vX hro10 h1310 hlf10.isA hTx (by omega) (by omega) (by omega) (by omega)) (hrf10) rfl gX5_verify_X3_reduce rfl rfl rfl ⟨rfl, by decide +kernel, by decide +kernel, (by decide +kernel : (parseMethodDescriptor yX3_reduce.desc).map (fun d => d.parameters.length) = some 2)⟩ ⟨Nat.le_of_ble_eq_true rfl, Nat.le_of_ble_eq_true rfl⟩ hl.1 rfl (Nat.le_of_ble_eq_true rfl) dX5_verify_257 ⟨Nat.le_of_ble_eq_true rfl, Nat.le_of_ble_eq_true rfl⟩ (fun M11 H locs hp hM hS => ?_)
          obtain ⟨w1, w2, hf11⟩ := hp
          have d11 : Dc kA M11 h S := d10.kept (fun b b1 b2 => hf11 b (by omega) (by omega))
          have hob11 := d11.ob
          have ds11 : Ds kA M11 h S.L 1 (S.a 0) := by
            obtain ⟨⟨-, o1, o2, o3, o4, o5, o6, o7, o8⟩, -, -, c1, -, -, -, lf, rt, -⟩ := _root_.id ds10
            have hro11 : Rs kA M11 (h + 40) S.L n := hro10.kept (hf11 _ (by omega) (by omega)) (hf11 _ (by omega) (by omega)) (hf11 _ (by omega) (by omega))
            exact ds10.chg (hro11.rk w2 (o4.kept (hf11 _ (by omega) (by omega))) (o5.kept (hf11 _ (by omega) (by omega))) (o6.kept (hf11 _ (by omega) (by omega))) (o7.kept (hf11 _ (by omega) (by omega))) (o8.kept (hf11 _ (by omega) (by omega)))) (c1.kept (hf11 _ (by omega) (by omega))) w1.isA (rt.kept (hf11 _ (by omega) (by omega))) (fun b b1 b2 b3 b4 b5 => hf11 b b4 (by omega))
          have dk11 : Dk kA M11 h S := ⟨hsi, d11, by rw [hs1]; exact ds11⟩
          have hfr11 : ∀ b, b < h ∨ h + 75 < b → M11 b = M5 b := fun b hb => by rw [hf11 b (by omega) (by omega)]; exact hfr10 b (by omega)
          have hTo11 : M11 (h + 73) = some (oPt (h + 73) (nI dT)) := by rw [hf11 _ (by omega) (by omega)]; exact hTo
          have hver : verR n rv (fz (kp S) (S.a 1)) (kT (fz (kp S) (S.a 1)) (pt S ig) E2) (kT (fz (kp S) (S.a 1)) (pt S iq) R2) = verT n rv T := by
            rw [er7]
            cases hG : kT (fz (kp S) (S.a 1)) (pt S ig) E2 with
            | none => rw [hG] at er10; exact absurd er10 (fun q => by cases q)
            | some G =>
              rw [hG] at er10
              have er10 : psum (fz (kp S) (S.a 1)) G P = some T := er10
              unfold verR
              dsimp only
              rw [er10]
              cases T with
              | none => rfl
              | some T => obtain ⟨X, Y⟩ := T; rfl
          refine lv_aload_n hx hb dX5_verify_260 rfl (lv_at hl 1 rfl) ?_
          refine x_get (v := .ref (h + 73)) hx hb hts in_X5_verify_X5 hown hK hM (hob11) rfl 9 (by decide) (hts (.fieldLink RX5 71 "LimbCurves" "result" "LLimbCurves$Point;") (by decide +kernel)) (fun _ h9 => h9) rfl dX5_verify_261 ?_
          refine x_get (v := .int (nI dT)) hx hb hts in_X5_verify_X2 hown hK hM (hTo11) rfl 2 (by decide) (hts (.fieldLink RX5 110 "LimbCurves$Point" "identity" "Z") (by decide +kernel)) (fun _ h9 => h9) rfl dX5_verify_264 ?_
          refine r_if_neN (tgt := 286) C (by omega) dX5_verify_267 (by decide) (fun hc3 => ?_) (fun hc3 => ?_)
          · have hres : (nI 0 : Int32) = verR n rv (fz (kp S) (S.a 1)) (kT (fz (kp S) (S.a 1)) (pt S ig) E2) (kT (fz (kp S) (S.a 1)) (pt S iq) R2) := by
              rw [hver]
              rcases hTd with ⟨-, q⟩ | ⟨q, -⟩
              · rw [q]; rfl
              · omega
            refine lv_iconst (v := nI 0) hx hb dX5_verify_286 (by decide) ?_
            exact r_iret C hM hS (hpost _ M11 hres dk11 hfr11) dX5_verify_287
          · obtain ⟨X, Y, eT, evX⟩ : ∃ X Y, T = some (X, Y) ∧ vX = X.val := by
              rcases hTd with ⟨q, -⟩ | ⟨-, q⟩
              · omega
              · exact q
            rw [eT] at hver
            have hver : verR n rv (fz (kp S) (S.a 1)) (kT (fz (kp S) (S.a 1)) (pt S ig) E2) (kT (fz (kp S) (S.a 1)) (pt S iq) R2) = if X.val % n = rv then 1 else 0 := hver
            obtain ⟨f1, hf1, n1, V1⟩ := w1
            obtain ⟨f2, hf2, n2, V2⟩ := d11.sc hr1 hr2
            refine lv_aload_n hx hb dX5_verify_270 rfl (lv_at hl 1 rfl) ?_
            refine x_get (v := .ref (h + 71)) hx hb hts in_X5_verify_X5 hown hK hM (hob11) rfl 7 (by decide) (hts (.fieldLink RX5 64 "LimbCurves" "left" "[I") (by decide +kernel)) (fun _ h9 => h9) rfl dX5_verify_271 ?_
            refine lv_aload hx hb dX5_verify_274 (lv_at hl 0 rfl) ?_
            refine r_Si (As := [.ref (h + 71), .ref (h + 32 + (ir - 12))]) (rest := []) C hM hS (c_compare l D kA N0 M11 (h + 71) ((h + 32 + (ir - 12))) S.L f1 f2 hf1 hf2 n1 n2 (by omega)) gX5_verify_X1_compare rfl rfl rfl ⟨by decide +kernel, by decide +kernel, (by decide +kernel : (parseMethodDescriptor yX1_compare.desc).map (fun d => d.parameters.length) = some 2)⟩ ⟨Nat.le_of_ble_eq_true rfl, Nat.le_of_ble_eq_true rfl⟩ hl.1 rfl (Nat.le_of_ble_eq_true rfl) dX5_verify_276 ⟨Nat.le_of_ble_eq_true rfl, Nat.le_of_ble_eq_true rfl⟩ (fun v12 M12 H locs hp hM hS => ?_)
            obtain ⟨eM12, hv12⟩ := hp
            rw [eM12] at hM
            rw [V1, V2, evX, ← hrv] at hv12
            refine lv_if_ne (tgt := 286) hx hb dX5_verify_279 (by decide) (fun hc4 => ?_) (fun hc4 => ?_)
            · have hne : ¬ X.val % n = rv := fun q => by
                rcases hv12 with ⟨h1, h2⟩ | ⟨h1, h2⟩ | ⟨h1, h2⟩
                · exact hc4 h1
                · omega
                · omega
              rw [if_neg hne] at hver
              refine lv_iconst (v := nI 0) hx hb dX5_verify_286 (by decide) ?_
              exact r_iret C hM hS (hpost _ M11 hver.symm dk11 hfr11) dX5_verify_287
            · have heq : X.val % n = rv := by
                rcases hv12 with ⟨h1, h2⟩ | ⟨h1, h2⟩ | ⟨h1, h2⟩
                · exact h2
                · rw [h1] at hc4; exact absurd hc4 (by decide)
                · rw [h1] at hc4; exact absurd hc4 (by decide)
              rw [if_pos heq] at hver
              refine lv_iconst (v := nI 1) hx hb dX5_verify_282 (by decide) ?_
              refine lv_goto (tgt := 287) hx hb dX5_verify_283 (by decide) ?_
              exact r_iret C hM hS (hpost _ M11 hver.symm dk11 hfr11) dX5_verify_287
        · exact absurd hc2 (by decide)
    · exact absurd hc (by decide)
set_option maxRecDepth 100000 in
theorem c_verify (l : Launch) (D : va_G) (kA : Nat → ClassId) (N0 : Nat) (M : xM) (h : Nat) (S : St) (q g w r t : Int32) (dk : Dk kA M h S) : cI l yX5_verify wsX5_verify (xR 6) [.ref h, .int q, .int g, .int w, .int r, .int t] D kA N0 M (fun v M1 => v = spVer S q g w r t ∧ Dk kA M1 h S ∧ ∀ b, b < h ∨ h + 75 < b → M1 b = M b) := by
  have dk0 := dk
  obtain ⟨hsi, d, ds⟩ := dk
  have hob := d.ob
  have hL0 := hsi.L1
  have hL9 := hsi.L9
  have hno : ¬ (good S q ∧ good S g ∧ isSc w ∧ isSc r ∧ isSc t ∧ 0 < S.a 3) → (-1 : Int32) = spVer S q g w r t := fun k => by
    unfold spVer
    rw [if_neg k]
  refine r_met (cc := cX5_verify) (maxL := 7) (ret := (some .int)) (by decide) rfl (Nat.le_of_ble_eq_true rfl) ?_
  intro p e s m below meth c ls C hM hnm hl
  obtain ⟨hx, hb, hml, hown, hts, hr, hlocks, hK, hN⟩ := _root_.id C
  have hS : va_S (xA N0) s.heap s.heap [] := va_S.rf
  have hl : lv_has ls 7 [(0, .ref h), (1, .int q), (2, .int g), (3, .int w), (4, .int r), (5, .int t)] := hl
  refine lv_aload_n hx hb dX5_verify_0 rfl (lv_at hl 0 rfl) ?_
  refine lv_iload_n hx hb dX5_verify_1 rfl (lv_at hl 1 rfl) ?_
  refine r_Vi (As := [.int q]) (rest := []) C hM hS (c_onCurve l D kA N0 M h S q dk0) (hob) rfl gX5_verify_X5_onCurve rfl rfl rfl ⟨rfl, by decide +kernel, by decide +kernel, (by decide +kernel : (parseMethodDescriptor yX5_onCurve.desc).map (fun d => d.parameters.length) = some 1)⟩ ⟨Nat.le_of_ble_eq_true rfl, Nat.le_of_ble_eq_true rfl⟩ hl.1 rfl (Nat.le_of_ble_eq_true rfl) dX5_verify_2 ⟨Nat.le_of_ble_eq_true rfl, Nat.le_of_ble_eq_true rfl⟩ (fun v1 M1 H locs hp hM hS => ?_)
  obtain ⟨hv1, dk1, hf1⟩ := hp
  have hob1 := dk1.2.1.ob
  refine lv_if_eq (tgt := 39) hx hb dX5_verify_5 (by decide) (fun hc1 => ?_) (fun hc1 => ?_)
  · have hn : ¬ good S q := by
      rcases hv1 with ⟨h1, h2⟩ | ⟨h1, h2⟩
      · rw [h1] at hc1; exact absurd hc1 (by decide)
      · exact h2
    refine lv_iconst (v := (-1)) hx hb dX5_verify_39 (by decide) ?_
    exact r_iret C hM hS (⟨hno (fun k => hn k.1), dk1, fun b hb => hf1 b (by omega)⟩) dX5_verify_40
  · have hgq : good S q := by
      rcases hv1 with ⟨h1, h2⟩ | ⟨h1, h2⟩
      · exact h2
      · exact absurd h1 hc1
    refine lv_aload_n hx hb dX5_verify_8 rfl (lv_at hl 0 rfl) ?_
    refine lv_iload_n hx hb dX5_verify_9 rfl (lv_at hl 2 rfl) ?_
    refine r_Vi (As := [.int g]) (rest := []) C hM hS (c_onCurve l D kA N0 M1 h S g dk1) (hob1) rfl gX5_verify_X5_onCurve rfl rfl rfl ⟨rfl, by decide +kernel, by decide +kernel, (by decide +kernel : (parseMethodDescriptor yX5_onCurve.desc).map (fun d => d.parameters.length) = some 1)⟩ ⟨Nat.le_of_ble_eq_true rfl, Nat.le_of_ble_eq_true rfl⟩ hl.1 rfl (Nat.le_of_ble_eq_true rfl) dX5_verify_10 ⟨Nat.le_of_ble_eq_true rfl, Nat.le_of_ble_eq_true rfl⟩ (fun v2 M2 H locs hp hM hS => ?_)
    obtain ⟨hv2, dk2, hf2⟩ := hp
    have hob2 := dk2.2.1.ob
    have hfr2 : ∀ b, b < h ∨ h + 75 < b → M2 b = M b := fun b hb => by rw [hf2 b (by omega), hf1 b (by omega)]
    refine lv_if_eq (tgt := 39) hx hb dX5_verify_13 (by decide) (fun hc2 => ?_) (fun hc2 => ?_)
    · have hn : ¬ good S g := by
        rcases hv2 with ⟨h1, h2⟩ | ⟨h1, h2⟩
        · rw [h1] at hc2; exact absurd hc2 (by decide)
        · exact h2
      refine lv_iconst (v := (-1)) hx hb dX5_verify_39 (by decide) ?_
      exact r_iret C hM hS (⟨hno (fun k => hn k.2.1), dk2, hfr2⟩) dX5_verify_40
    · have hgg : good S g := by
        rcases hv2 with ⟨h1, h2⟩ | ⟨h1, h2⟩
        · exact h2
        · exact absurd h1 hc2
      refine lv_iload_n hx hb dX5_verify_16 rfl (lv_at hl 3 rfl) ?_
      refine r_Si (As := [.int w]) (rest := []) C hM hS (c_isScalar l D kA N0 M2 w) gX5_verify_X5_isScalar rfl rfl rfl ⟨by decide +kernel, by decide +kernel, (by decide +kernel : (parseMethodDescriptor yX5_isScalar.desc).map (fun d => d.parameters.length) = some 1)⟩ ⟨Nat.le_of_ble_eq_true rfl, Nat.le_of_ble_eq_true rfl⟩ hl.1 rfl (Nat.le_of_ble_eq_true rfl) dX5_verify_17 ⟨Nat.le_of_ble_eq_true rfl, Nat.le_of_ble_eq_true rfl⟩ (fun v3 M3 H locs hp hM hS => ?_)
      obtain ⟨eM3, hv3⟩ := hp
      rw [eM3] at hM
      refine lv_if_eq (tgt := 39) hx hb dX5_verify_20 (by decide) (fun hc3 => ?_) (fun hc3 => ?_)
      · have hn : ¬ isSc w := by
          rcases hv3 with ⟨h1, h2⟩ | ⟨h1, h2⟩
          · rw [h1] at hc3; exact absurd hc3 (by decide)
          · exact h2
        refine lv_iconst (v := (-1)) hx hb dX5_verify_39 (by decide) ?_
        exact r_iret C hM hS (⟨hno (fun k => hn k.2.2.1), dk2, hfr2⟩) dX5_verify_40
      · have hsw : isSc w := by
          rcases hv3 with ⟨h1, h2⟩ | ⟨h1, h2⟩
          · exact h2
          · exact absurd h1 hc3
        refine lv_iload hx hb dX5_verify_23 (lv_at hl 4 rfl) ?_
        refine r_Si (As := [.int r]) (rest := []) C hM hS (c_isScalar l D kA N0 M2 r) gX5_verify_X5_isScalar rfl rfl rfl ⟨by decide +kernel, by decide +kernel, (by decide +kernel : (parseMethodDescriptor yX5_isScalar.desc).map (fun d => d.parameters.length) = some 1)⟩ ⟨Nat.le_of_ble_eq_true rfl, Nat.le_of_ble_eq_true rfl⟩ hl.1 rfl (Nat.le_of_ble_eq_true rfl) dX5_verify_25 ⟨Nat.le_of_ble_eq_true rfl, Nat.le_of_ble_eq_true rfl⟩ (fun v4 M4 H locs hp hM hS => ?_)
        obtain ⟨eM4, hv4⟩ := hp
        rw [eM4] at hM
        refine lv_if_eq (tgt := 39) hx hb dX5_verify_28 (by decide) (fun hc4 => ?_) (fun hc4 => ?_)
        · have hn : ¬ isSc r := by
            rcases hv4 with ⟨h1, h2⟩ | ⟨h1, h2⟩
            · rw [h1] at hc4; exact absurd hc4 (by decide)
            · exact h2
          refine lv_iconst (v := (-1)) hx hb dX5_verify_39 (by decide) ?_
          exact r_iret C hM hS (⟨hno (fun k => hn k.2.2.2.1), dk2, hfr2⟩) dX5_verify_40
        · have hsr : isSc r := by
            rcases hv4 with ⟨h1, h2⟩ | ⟨h1, h2⟩
            · exact h2
            · exact absurd h1 hc4
          refine lv_iload hx hb dX5_verify_31 (lv_at hl 5 rfl) ?_
          refine r_Si (As := [.int t]) (rest := []) C hM hS (c_isScalar l D kA N0 M2 t) gX5_verify_X5_isScalar rfl rfl rfl ⟨by decide +kernel, by decide +kernel, (by decide +kernel : (parseMethodDescriptor yX5_isScalar.desc).map (fun d => d.parameters.length) = some 1)⟩ ⟨Nat.le_of_ble_eq_true rfl, Nat.le_of_ble_eq_true rfl⟩ hl.1 rfl (Nat.le_of_ble_eq_true rfl) dX5_verify_33 ⟨Nat.le_of_ble_eq_true rfl, Nat.le_of_ble_eq_true rfl⟩ (fun v5 M5 H locs hp hM hS => ?_)
          obtain ⟨eM5, hv5⟩ := hp
          rw [eM5] at hM
          refine lv_if_ne (tgt := 41) hx hb dX5_verify_36 (by decide) (fun hc5 => ?_) (fun hc5 => ?_)
          · have hst : isSc t := by
              rcases hv5 with ⟨h1, h2⟩ | ⟨h1, h2⟩
              · exact h2
              · exact absurd h1 hc5
            obtain ⟨-, d2, ds2⟩ := _root_.id dk2
            have hs1 := hgq.1
            have hqr := po_ix hgq.2.1
            have hqe := ix_eq (x := q) (by have := hgq.2.1.1; omega)
            have hgr := po_ix hgg.2.1
            have hge := ix_eq (x := g) (by have := hgg.2.1.1; omega)
            have hwr := sc_ix hsw
            have hwe := ix_eq (x := w) (by omega)
            have hrr := sc_ix hsr
            have hre := ix_eq (x := r) (by omega)
            have htr := sc_ix hst
            have hte := ix_eq (x := t) (by omega)
            have hl : lv_has ls 7 [(0, .ref h), (1, .int (nI (ix q))), (2, .int (nI (ix g))), (3, .int (nI (ix w))), (4, .int (nI (ix r))), (5, .int (nI (ix t)))] := by rw [← hqe, ← hge, ← hwe, ← hre, ← hte]; exact hl
            obtain ⟨q1, hq1, hqi⟩ := d2.q1
            have hq3 := hqi 3 (by omega)
            have hN := d2.pa (s := 3) (by omega)
            have hok := ds2.1
            obtain ⟨oz1, oz2, hrf⟩ := hok.1
            refine lv_aload_n hx hb dX5_verify_41 rfl (lv_at hl 0 rfl) ?_
            refine x_get (v := .ref (h + 40)) hx hb hts in_X5_verify_X5 hown hK hM (hob2) rfl 4 (by decide) (hts (.fieldLink RX5 42 "LimbCurves" "order" "LLimbCurves$Residues;") (by decide +kernel)) (fun _ h9 => h9) rfl dX5_verify_42 ?_
            refine lv_aload_n hx hb dX5_verify_45 rfl (lv_at hl 0 rfl) ?_
            refine x_get (v := .ref (h + 1)) hx hb hts in_X5_verify_X5 hown hK hM (hob2) rfl 1 (by decide) (hts (.fieldLink RX5 24 "LimbCurves" "parameters" "[[I") (by decide +kernel)) (fun _ h9 => h9) rfl dX5_verify_46 ?_
            refine lv_iconst (v := nI 3) hx hb dX5_verify_49 (by decide) ?_
            refine r_aald (t0 := 3) C hM (hq1) rfl rfl (by omega) (by omega) (hq3) dX5_verify_50 ?_
            refine r_Vi (As := [.ref (h + 2 + 3)]) (rest := []) C hM hS (c_takeModulus l D kA N0 M2 (h + 40) S.L (h + 2 + 3) (S.a 3) hok hN (by omega)) (hrf) rfl gX5_verify_X3_takeModulus rfl rfl rfl ⟨rfl, by decide +kernel, by decide +kernel, (by decide +kernel : (parseMethodDescriptor yX3_takeModulus.desc).map (fun d => d.parameters.length) = some 1)⟩ ⟨Nat.le_of_ble_eq_true rfl, Nat.le_of_ble_eq_true rfl⟩ hl.1 rfl (Nat.le_of_ble_eq_true rfl) dX5_verify_51 ⟨Nat.le_of_ble_eq_true rfl, Nat.le_of_ble_eq_true rfl⟩ (fun qm M3 H locs hp hM hS => ?_)
            obtain ⟨hk3, hf3, hqm⟩ := hp
            have d3 : Dc kA M3 h S := d2.kept (fun b b1 b2 => hf3 b (by omega) (by omega) (by omega))
            have hob3 := d3.ob
            have ds3 : Ds kA M3 h S.L S.sealed (S.a 0) := by
              obtain ⟨-, -, -, c1, -, -, -, lf, rt, -⟩ := _root_.id ds2
              exact ds2.chg hk3 (c1.kept (hf3 _ (by omega) (by omega) (by omega))) (lf.kept (hf3 _ (by omega) (by omega) (by omega))) (rt.kept (hf3 _ (by omega) (by omega) (by omega))) (fun b b1 b2 b3 b4 b5 => hf3 b (by omega) (by omega) (by omega))
            have hfr3 : ∀ b, b < h ∨ h + 75 < b → M3 b = M b := fun b hb => by rw [hf3 b (by omega) (by omega) (by omega)]; exact hfr2 b hb
            refine lv_if_ne (tgt := 59) hx hb dX5_verify_54 (by decide) (fun hc6 => ?_) (fun hc6 => ?_)
            · obtain ⟨hn0, hRs⟩ : 0 < S.a 3 ∧ Rs kA M3 (h + 40) S.L (S.a 3) := by
                rcases hqm with ⟨h1, h2⟩ | ⟨h1, h2, h3⟩
                · exact absurd h1 hc6
                · exact ⟨h2, h3⟩
              have hcond : good S q ∧ good S g ∧ isSc w ∧ isSc r ∧ isSc t ∧ 0 < S.a 3 := ⟨hgq, hgg, hsw, hsr, hst, hn0⟩
              have hrej : ¬ (0 < S.a (ix r) ∧ S.a (ix r) < S.a 3 ∧ 0 < S.a (ix t) ∧ S.a (ix t) < S.a 3) → (nI 0 : Int32) = spVer S q g w r t := fun k => by
                unfold spVer
                rw [if_pos hcond, if_neg k]
                rfl
              have hg := Os.ini ds2 hk3 hRs hf3
              obtain ⟨z9, y9, hrf3⟩ := hRs.ob
              refine lv_aload_n hx hb dX5_verify_59 rfl (lv_at hl 0 rfl) ?_
              refine lv_iload hx hb dX5_verify_60 (lv_at hl 4 rfl) ?_
              refine r_VrQ (As := [.int (nI (ix r))]) (rest := []) C hM hS (c_scalarIn l D kA N0 M3 h (ix r) S d3 hrr.1 hrr.2) (hob3) rfl gX5_verify_X5_scalarIn rfl rfl rfl ⟨rfl, by decide +kernel, by decide +kernel, (by decide +kernel : (parseMethodDescriptor yX5_scalarIn.desc).map (fun d => d.parameters.length) = some 1)⟩ ⟨Nat.le_of_ble_eq_true rfl, Nat.le_of_ble_eq_true rfl⟩ hl.1 rfl (Nat.le_of_ble_eq_true rfl) dX5_verify_62 ⟨Nat.le_of_ble_eq_true rfl, Nat.le_of_ble_eq_true rfl⟩ (fun rk M4 H locs hp hM hS => ?_)
              obtain ⟨eM4, erk⟩ := hp
              have eM4 : M4 = M3 := eM4
              have erk : rk = (h + 32 + ((ix r) - 12)) := erk
              rw [eM4] at hM
              rw [erk]
              refine lv_astore (lv' := [(6, .ref (h + 32 + ((ix r) - 12))), (0, .ref h), (1, .int (nI (ix q))), (2, .int (nI (ix g))), (3, .int (nI (ix w))), (4, .int (nI (ix r))), (5, .int (nI (ix t)))]) hx hb dX5_verify_65 hl (by decide) rfl (fun ls hl => ?_)
              refine lv_aload_n hx hb dX5_verify_67 rfl (lv_at hl 1 rfl) ?_
              refine lv_aload hx hb dX5_verify_68 (lv_at hl 0 rfl) ?_
              refine r_Vi (As := [.ref (h + 32 + ((ix r) - 12))]) (rest := []) C hM hS (c_isSignaturePart l D kA N0 M3 h ((h + 32 + ((ix r) - 12))) (S.a (ix r)) S d3 (d3.sc hrr.1 hrr.2) hL9) (hob3) rfl gX5_verify_X5_isSignaturePart rfl rfl rfl ⟨rfl, by decide +kernel, by decide +kernel, (by decide +kernel : (parseMethodDescriptor yX5_isSignaturePart.desc).map (fun d => d.parameters.length) = some 1)⟩ ⟨Nat.le_of_ble_eq_true rfl, Nat.le_of_ble_eq_true rfl⟩ hl.1 rfl (Nat.le_of_ble_eq_true rfl) dX5_verify_70 ⟨Nat.le_of_ble_eq_true rfl, Nat.le_of_ble_eq_true rfl⟩ (fun p1 M4 H locs hp hM hS => ?_)
              obtain ⟨eM4b, hp1⟩ := hp
              rw [eM4b] at hM
              refine lv_if_eq (tgt := 89) hx hb dX5_verify_73 (by decide) (fun hc7 => ?_) (fun hc7 => ?_)
              · have hn : ¬ (0 < S.a (ix r) ∧ S.a (ix r) < S.a 3) := by
                  rcases hp1 with ⟨h1, h2⟩ | ⟨h1, h2⟩
                  · rw [h1] at hc7; exact absurd hc7 (by decide)
                  · exact h2
                refine lv_iconst (v := nI 0) hx hb dX5_verify_89 (by decide) ?_
                exact r_iret C hM hS (⟨hrej (fun k => hn ⟨k.1, k.2.1⟩), ⟨hsi, d3, ds3⟩, hfr3⟩) dX5_verify_90
              · have hrb : 0 < S.a (ix r) ∧ S.a (ix r) < S.a 3 := by
                  rcases hp1 with ⟨h1, h2⟩ | ⟨h1, h2⟩
                  · exact h2
                  · exact absurd h1 hc7
                refine lv_aload_n hx hb dX5_verify_76 rfl (lv_at hl 1 rfl) ?_
                refine lv_aload_n hx hb dX5_verify_77 rfl (lv_at hl 1 rfl) ?_
                refine lv_iload hx hb dX5_verify_78 (lv_at hl 6 rfl) ?_
                refine r_VrQ (As := [.int (nI (ix t))]) (rest := [.ref h]) C hM hS (c_scalarIn l D kA N0 M3 h (ix t) S d3 htr.1 htr.2) (hob3) rfl gX5_verify_X5_scalarIn rfl rfl rfl ⟨rfl, by decide +kernel, by decide +kernel, (by decide +kernel : (parseMethodDescriptor yX5_scalarIn.desc).map (fun d => d.parameters.length) = some 1)⟩ ⟨Nat.le_of_ble_eq_true rfl, Nat.le_of_ble_eq_true rfl⟩ hl.1 rfl (Nat.le_of_ble_eq_true rfl) dX5_verify_80 ⟨Nat.le_of_ble_eq_true rfl, Nat.le_of_ble_eq_true rfl⟩ (fun rt M4 H locs hp hM hS => ?_)
                obtain ⟨eM4, ert⟩ := hp
                have eM4 : M4 = M3 := eM4
                have ert : rt = (h + 32 + ((ix t) - 12)) := ert
                rw [eM4] at hM
                rw [ert]
                refine r_Vi (As := [.ref (h + 32 + ((ix t) - 12))]) (rest := []) C hM hS (c_isSignaturePart l D kA N0 M3 h ((h + 32 + ((ix t) - 12))) (S.a (ix t)) S d3 (d3.sc htr.1 htr.2) hL9) (hob3) rfl gX5_verify_X5_isSignaturePart rfl rfl rfl ⟨rfl, by decide +kernel, by decide +kernel, (by decide +kernel : (parseMethodDescriptor yX5_isSignaturePart.desc).map (fun d => d.parameters.length) = some 1)⟩ ⟨Nat.le_of_ble_eq_true rfl, Nat.le_of_ble_eq_true rfl⟩ hl.1 rfl (Nat.le_of_ble_eq_true rfl) dX5_verify_83 ⟨Nat.le_of_ble_eq_true rfl, Nat.le_of_ble_eq_true rfl⟩ (fun p2 M4 H locs hp hM hS => ?_)
                obtain ⟨eM4c, hp2⟩ := hp
                rw [eM4c] at hM
                refine lv_if_ne (tgt := 91) hx hb dX5_verify_86 (by decide) (fun hc8 => ?_) (fun hc8 => ?_)
                · have htb : 0 < S.a (ix t) ∧ S.a (ix t) < S.a 3 := by
                    rcases hp2 with ⟨h1, h2⟩ | ⟨h1, h2⟩
                    · exact h2
                    · exact absurd h1 hc8
                  obtain ⟨-, -, -, k5, k6, k7, k8, -⟩ := _root_.id hg
                  refine lv_aload_n hx hb dX5_verify_91 rfl (lv_at hl 1 rfl) ?_
                  refine x_get (v := .ref (h + 40)) hx hb hts in_X5_verify_X5 hown hK hM (hob3) rfl 4 (by decide) (hts (.fieldLink RX5 42 "LimbCurves" "order" "LLimbCurves$Residues;") (by decide +kernel)) (fun _ h9 => h9) rfl dX5_verify_92 ?_
                  refine lv_aload_n hx hb dX5_verify_95 rfl (lv_at hl 1 rfl) ?_
                  refine x_get (v := .ref (h + 72)) hx hb hts in_X5_verify_X5 hown hK hM (hob3) rfl 8 (by decide) (hts (.fieldLink RX5 68 "LimbCurves" "right" "[I") (by decide +kernel)) (fun _ h9 => h9) rfl dX5_verify_96 ?_
                  refine lv_aload_n hx hb dX5_verify_99 rfl (lv_at hl 1 rfl) ?_
                  refine lv_iload hx hb dX5_verify_100 (lv_at hl 6 rfl) ?_
                  refine r_VrQ (As := [.int (nI (ix t))]) (rest := [.ref (h + 72), .ref (h + 40)]) C hM hS (c_scalarIn l D kA N0 M3 h (ix t) S d3 htr.1 htr.2) (hob3) rfl gX5_verify_X5_scalarIn rfl rfl rfl ⟨rfl, by decide +kernel, by decide +kernel, (by decide +kernel : (parseMethodDescriptor yX5_scalarIn.desc).map (fun d => d.parameters.length) = some 1)⟩ ⟨Nat.le_of_ble_eq_true rfl, Nat.le_of_ble_eq_true rfl⟩ hl.1 rfl (Nat.le_of_ble_eq_true rfl) dX5_verify_102 ⟨Nat.le_of_ble_eq_true rfl, Nat.le_of_ble_eq_true rfl⟩ (fun ru M4 H locs hp hM hS => ?_)
                  obtain ⟨eM4, eru⟩ := hp
                  have eM4 : M4 = M3 := eM4
                  have eru : ru = (h + 32 + ((ix t) - 12)) := eru
                  rw [eM4] at hM
                  rw [eru]
                  refine r_Vi (As := [.ref (h + 72), .ref (h + 32 + ((ix t) - 12))]) (rest := []) C hM hS (c_invert l D kA N0 M3 (h + 40) S.L (S.a 3) (h + 72) ((h + 32 + ((ix t) - 12))) (S.a (ix t)) (nI z9) (nI y9) hrf3 hg.rs.md k5 k6 k7 k8 hg.rt (d3.sc htr.1 htr.2) htb.2 (by omega) (by omega) (by omega) (by omega)) (hrf3) rfl gX5_verify_X3_invert rfl rfl rfl ⟨rfl, by decide +kernel, by decide +kernel, (by decide +kernel : (parseMethodDescriptor yX3_invert.desc).map (fun d => d.parameters.length) = some 2)⟩ ⟨Nat.le_of_ble_eq_true rfl, Nat.le_of_ble_eq_true rfl⟩ hl.1 rfl (Nat.le_of_ble_eq_true rfl) dX5_verify_105 ⟨Nat.le_of_ble_eq_true rfl, Nat.le_of_ble_eq_true rfl⟩ (fun vi M6 H locs hp hM hS => ?_)
                  obtain ⟨i5, i6, i7, i8, hf6, hvi⟩ := hp
                  rcases hvi with ⟨evi, hi, h72⟩ | ⟨evi, z, hi, h72⟩
                  · rw [evi]
                    have hg6 : Os kA M2 M6 h S.L (S.a 3) := hg.inv (Or.inr rfl) (hg.rt.kept h72) i5 i6 i7 i8 hf6
                    have dk6 : Dk kA M6 h S := ⟨hsi, d2.kept (fun b b1 b2 => hg6.fr b (by omega)), hg6.ds ds2⟩
                    have hres : (nI 0 : Int32) = spVer S q g w r t := by
                      unfold spVer
                      rw [if_pos hcond, if_pos ⟨hrb.1, hrb.2, htb.1, htb.2⟩, hi]
                      rfl
                    refine lv_if_ne (tgt := 113) hx hb dX5_verify_108 (by decide) (fun hc9 => ?_) (fun hc9 => ?_)
                    · exact absurd rfl hc9
                    · refine lv_iconst (v := nI 0) hx hb dX5_verify_111 (by decide) ?_
                      exact r_iret C hM hS (⟨hres, dk6, fun b hb => by rw [hg6.fr b (by omega)]; exact hfr2 b hb⟩) dX5_verify_112
                  · rw [evi]
                    have hg6 : Os kA M2 M6 h S.L (S.a 3) := hg.inv (Or.inr rfl) h72.isA i5 i6 i7 i8 hf6
                    have d6 : Dc kA M6 h S := d2.kept (fun b b1 b2 => hg6.fr b (by omega))
                    have hob6 := d6.ob
                    have hzb := (inv_spec hi).1
                    obtain ⟨za, ya, hrf6⟩ := hg6.rs.ob
                    refine lv_if_ne (tgt := 113) hx hb dX5_verify_108 (by decide) (fun hc9 => ?_) (fun hc9 => ?_)
                    · refine lv_aload_n hx hb dX5_verify_113 rfl (lv_at hl 1 rfl) ?_
                      refine x_get (v := .ref (h + 40)) hx hb hts in_X5_verify_X5 hown hK hM (hob6) rfl 4 (by decide) (hts (.fieldLink RX5 42 "LimbCurves" "order" "LLimbCurves$Residues;") (by decide +kernel)) (fun _ h9 => h9) rfl dX5_verify_114 ?_
                      refine lv_aload_n hx hb dX5_verify_117 rfl (lv_at hl 1 rfl) ?_
                      refine x_get (v := .ref (h + 71)) hx hb hts in_X5_verify_X5 hown hK hM (hob6) rfl 7 (by decide) (hts (.fieldLink RX5 64 "LimbCurves" "left" "[I") (by decide +kernel)) (fun _ h9 => h9) rfl dX5_verify_118 ?_
                      refine lv_aload_n hx hb dX5_verify_121 rfl (lv_at hl 1 rfl) ?_
                      refine lv_iload_n hx hb dX5_verify_122 rfl (lv_at hl 4 rfl) ?_
                      refine r_VrQ (As := [.int (nI (ix w))]) (rest := [.ref (h + 71), .ref (h + 40)]) C hM hS (c_scalarIn l D kA N0 M6 h (ix w) S d6 hwr.1 hwr.2) (hob6) rfl gX5_verify_X5_scalarIn rfl rfl rfl ⟨rfl, by decide +kernel, by decide +kernel, (by decide +kernel : (parseMethodDescriptor yX5_scalarIn.desc).map (fun d => d.parameters.length) = some 1)⟩ ⟨Nat.le_of_ble_eq_true rfl, Nat.le_of_ble_eq_true rfl⟩ hl.1 rfl (Nat.le_of_ble_eq_true rfl) dX5_verify_123 ⟨Nat.le_of_ble_eq_true rfl, Nat.le_of_ble_eq_true rfl⟩ (fun rw9 M7 H locs hp hM hS => ?_)
                      obtain ⟨eM7, erw⟩ := hp
                      have eM7 : M7 = M6 := eM7
                      have erw : rw9 = (h + 32 + ((ix w) - 12)) := erw
                      rw [eM7] at hM
                      rw [erw]
                      refine r_Vv (As := [.ref (h + 71), .ref (h + 32 + ((ix w) - 12))]) (rest := []) C hM hS (c_reduce l D kA N0 M6 (h + 40) S.L (S.a 3) (h + 71) ((h + 32 + ((ix w) - 12))) (S.a (ix w)) hg6.rs hg6.wk hg6.lf (d6.sc hwr.1 hwr.2) (by omega) (by omega) (by omega) (by omega)) (hrf6) rfl gX5_verify_X3_reduce rfl rfl rfl ⟨rfl, by decide +kernel, by decide +kernel, (by decide +kernel : (parseMethodDescriptor yX3_reduce.desc).map (fun d => d.parameters.length) = some 2)⟩ ⟨Nat.le_of_ble_eq_true rfl, Nat.le_of_ble_eq_true rfl⟩ hl.1 rfl (Nat.le_of_ble_eq_true rfl) dX5_verify_126 ⟨Nat.le_of_ble_eq_true rfl, Nat.le_of_ble_eq_true rfl⟩ (fun M7 H locs hp hM hS => ?_)
                      obtain ⟨e1, e2, e3⟩ := hp
                      have hg7 : Os kA M2 M7 h S.L (S.a 3) := hg6.mul (Or.inl rfl) e1.isA e2 e3
                      have d7 : Dc kA M7 h S := d2.kept (fun b b1 b2 => hg7.fr b (by omega))
                      have hob7 := d7.ob
                      obtain ⟨zb, yb, hrf7⟩ := hg7.rs.ob
                      have h727 := h72.kept (e3 (h + 72) (by omega) (by omega))
                      have heb : S.a (ix w) % S.a 3 < S.a 3 := Nat.mod_lt _ hn0
                      refine lv_aload_n hx hb dX5_verify_129 rfl (lv_at hl 1 rfl) ?_
                      refine x_get (v := .ref (h + 40)) hx hb hts in_X5_verify_X5 hown hK hM (hob7) rfl 4 (by decide) (hts (.fieldLink RX5 42 "LimbCurves" "order" "LLimbCurves$Residues;") (by decide +kernel)) (fun _ h9 => h9) rfl dX5_verify_130 ?_
                      refine lv_aload_n hx hb dX5_verify_133 rfl (lv_at hl 1 rfl) ?_
                      refine x_get (v := .ref (h + 71)) hx hb hts in_X5_verify_X5 hown hK hM (hob7) rfl 7 (by decide) (hts (.fieldLink RX5 64 "LimbCurves" "left" "[I") (by decide +kernel)) (fun _ h9 => h9) rfl dX5_verify_134 ?_
                      refine lv_aload_n hx hb dX5_verify_137 rfl (lv_at hl 1 rfl) ?_
                      refine x_get (v := .ref (h + 71)) hx hb hts in_X5_verify_X5 hown hK hM (hob7) rfl 7 (by decide) (hts (.fieldLink RX5 64 "LimbCurves" "left" "[I") (by decide +kernel)) (fun _ h9 => h9) rfl dX5_verify_138 ?_
                      refine lv_aload_n hx hb dX5_verify_141 rfl (lv_at hl 1 rfl) ?_
                      refine x_get (v := .ref (h + 72)) hx hb hts in_X5_verify_X5 hown hK hM (hob7) rfl 8 (by decide) (hts (.fieldLink RX5 68 "LimbCurves" "right" "[I") (by decide +kernel)) (fun _ h9 => h9) rfl dX5_verify_142 ?_
                      refine r_Vv (As := [.ref (h + 71), .ref (h + 71), .ref (h + 72)]) (rest := []) C hM hS (c_multiply l D kA N0 M7 (h + 40) S.L (S.a 3) (h + 71) (h + 71) (h + 72) _ z hg7.rs hg7.wk hg7.lf e1 h727 heb hzb (by omega) (by omega) (by omega) (by omega) (by omega)) (hrf7) rfl gX5_verify_X3_multiply rfl rfl rfl ⟨rfl, by decide +kernel, by decide +kernel, (by decide +kernel : (parseMethodDescriptor yX3_multiply.desc).map (fun d => d.parameters.length) = some 3)⟩ ⟨Nat.le_of_ble_eq_true rfl, Nat.le_of_ble_eq_true rfl⟩ hl.1 rfl (Nat.le_of_ble_eq_true rfl) dX5_verify_145 ⟨Nat.le_of_ble_eq_true rfl, Nat.le_of_ble_eq_true rfl⟩ (fun M8 H locs hp hM hS => ?_)
                      obtain ⟨f1, f2, f3⟩ := hp
                      have hg8 : Os kA M2 M8 h S.L (S.a 3) := hg7.mul (Or.inl rfl) f1.isA f2 f3
                      have d8 : Dc kA M8 h S := d2.kept (fun b b1 b2 => hg8.fr b (by omega))
                      have hob8 := d8.ob
                      obtain ⟨zc, yc, hrf8⟩ := hg8.rs.ob
                      have h728 := h727.kept (f3 (h + 72) (by omega) (by omega))
                      refine lv_aload_n hx hb dX5_verify_148 rfl (lv_at hl 1 rfl) ?_
                      refine x_get (v := .ref (h + 40)) hx hb hts in_X5_verify_X5 hown hK hM (hob8) rfl 4 (by decide) (hts (.fieldLink RX5 42 "LimbCurves" "order" "LLimbCurves$Residues;") (by decide +kernel)) (fun _ h9 => h9) rfl dX5_verify_149 ?_
                      refine lv_aload_n hx hb dX5_verify_152 rfl (lv_at hl 1 rfl) ?_
                      refine x_get (v := .ref (h + 72)) hx hb hts in_X5_verify_X5 hown hK hM (hob8) rfl 8 (by decide) (hts (.fieldLink RX5 68 "LimbCurves" "right" "[I") (by decide +kernel)) (fun _ h9 => h9) rfl dX5_verify_153 ?_
                      refine lv_aload hx hb dX5_verify_156 (lv_at hl 0 rfl) ?_
                      refine lv_aload_n hx hb dX5_verify_158 rfl (lv_at hl 1 rfl) ?_
                      refine x_get (v := .ref (h + 72)) hx hb hts in_X5_verify_X5 hown hK hM (hob8) rfl 8 (by decide) (hts (.fieldLink RX5 68 "LimbCurves" "right" "[I") (by decide +kernel)) (fun _ h9 => h9) rfl dX5_verify_159 ?_
                      refine r_Vv (As := [.ref (h + 72), .ref (h + 32 + ((ix r) - 12)), .ref (h + 72)]) (rest := []) C hM hS (c_multiply l D kA N0 M8 (h + 40) S.L (S.a 3) (h + 72) ((h + 32 + ((ix r) - 12))) (h + 72) (S.a (ix r)) z hg8.rs hg8.wk hg8.rt (d8.sc hrr.1 hrr.2) h728 hrb.2 hzb (by omega) (by omega) (by omega) (by omega) (by omega)) (hrf8) rfl gX5_verify_X3_multiply rfl rfl rfl ⟨rfl, by decide +kernel, by decide +kernel, (by decide +kernel : (parseMethodDescriptor yX3_multiply.desc).map (fun d => d.parameters.length) = some 3)⟩ ⟨Nat.le_of_ble_eq_true rfl, Nat.le_of_ble_eq_true rfl⟩ hl.1 rfl (Nat.le_of_ble_eq_true rfl) dX5_verify_162 ⟨Nat.le_of_ble_eq_true rfl, Nat.le_of_ble_eq_true rfl⟩ (fun M9 H locs hp hM hS => ?_)
                      obtain ⟨g1, g2, g3⟩ := hp
                      have hg9 : Os kA M2 M9 h S.L (S.a 3) := hg8.mul (Or.inr rfl) g1.isA g2 g3
                      have d9 : Dc kA M9 h S := d2.kept (fun b b1 b2 => hg9.fr b (by omega))
                      have ds9 : Ds kA M9 h S.L 1 (S.a 0) := by have := hg9.ds ds2; rw [hs1] at this; exact this
                      have h719 := f1.kept (g3 (h + 71) (by omega) (by omega))
                      rw [Nat.mod_mul_mod] at h719
                      refine ve_165 C hM hS hl hsi hs1 d9 ds9 h719 g1 hg9.rs hg9.wk hqr.1 hqr.2 hgr.1 hgr.2 hrr.1 hrr.2 hgq.2.2 hgg.2.2 rfl (fun v M10 ev dk10 hf10 => ⟨?_, dk10, fun b hb => by rw [hf10 b hb, hg9.fr b (by omega)]; exact hfr2 b hb⟩)
                      unfold spVer
                      rw [if_pos hcond, if_pos ⟨hrb.1, hrb.2, htb.1, htb.2⟩, hi]
                      exact ev
                    · exact absurd hc9 (by decide)
                · have hn : ¬ (0 < S.a (ix t) ∧ S.a (ix t) < S.a 3) := by
                    rcases hp2 with ⟨h1, h2⟩ | ⟨h1, h2⟩
                    · rw [h1] at hc8; exact absurd hc8 (by decide)
                    · exact h2
                  refine lv_iconst (v := nI 0) hx hb dX5_verify_89 (by decide) ?_
                  exact r_iret C hM hS (⟨hrej (fun k => hn k.2.2), ⟨hsi, d3, ds3⟩, hfr3⟩) dX5_verify_90
            · have hn0 : S.a 3 = 0 := by
                rcases hqm with ⟨h1, h2⟩ | ⟨h1, h2, h3⟩
                · exact h2
                · rw [h1] at hc6; exact absurd hc6 (by decide)
              refine lv_iconst (v := (-1)) hx hb dX5_verify_57 (by decide) ?_
              exact r_iret C hM hS (⟨hno (fun k => by have := k.2.2.2.2.2; omega), ⟨hsi, d3, ds3⟩, hfr3⟩) dX5_verify_58
          · have hn : ¬ isSc t := by
              rcases hv5 with ⟨h1, h2⟩ | ⟨h1, h2⟩
              · rw [h1] at hc5; exact absurd hc5 (by decide)
              · exact h2
            refine lv_iconst (v := (-1)) hx hb dX5_verify_39 (by decide) ?_
            exact r_iret C hM hS (⟨hno (fun k => hn k.2.2.2.2.1), dk2, hfr2⟩) dX5_verify_40
end VER
