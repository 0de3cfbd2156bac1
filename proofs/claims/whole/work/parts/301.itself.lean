theorem in_X4_addAlongChord_X4 : ∀ w ∈ wsX40, w ∈ wsX4_addAlongChord := by decide +kernel
theorem in_X4_addAtSameX_X4 : ∀ w ∈ wsX40, w ∈ wsX4_addAtSameX := by decide +kernel
theorem in_X4_addItself_X4 : ∀ w ∈ wsX40, w ∈ wsX4_addItself := by decide +kernel
theorem in_X4_bringToSameZ_X2 : ∀ w ∈ wsX20, w ∈ wsX4_bringToSameZ := by decide +kernel
theorem in_X4_bringToSameZ_X4 : ∀ w ∈ wsX40, w ∈ wsX4_bringToSameZ := by decide +kernel
def gsl : List (Option Nat) → List (Option Nat) → Prop
  | [], _ => True
  | none :: a, _ :: b => gsl a b
  | some v :: a, w :: b => w = some v ∧ gsl a b
  | _ :: _, [] => False
theorem gs_less : ∀ {gs' gs : List (Option Nat)}, gsl gs' gs → ∀ k v : Nat, gs'[k]? = some (some v) → gs[k]? = some (some v) := by
  intro gs'
  induction gs' with
  | nil => intro gs _ k v hk; simp at hk
  | cons a as ih =>
    intro gs h k v hk
    cases gs with
    | nil => cases a <;> exact h.elim
    | cons b bs =>
      cases a with
      | none =>
        cases k with
        | zero => cases hk
        | succ k => exact ih h k v hk
      | some w =>
        obtain ⟨h1, h2⟩ := h
        cases k with
        | zero => cases hk; rw [h1]; rfl
        | succ k => exact ih h2 k v hk
section RUN2
variable {p : Program} {l : Launch} {e : Env} {R : Room} {s : State} {m : MethodId} {args : Array Value} {below : List Frame} {meth : Method} {c : Code} {Q : State → Prop} {cells slots : Nat} {ret : Option FieldType} {D : va_G} {kA : Nat → ClassId} {N0 : Nat}
set_option maxRecDepth 100000 in
theorem c_addItself1 (l : Launch) (D : va_G) (kA : Nat → ClassId) (N0 : Nat) (M0 M : xM) (h L pp : Nat) (gs : List (Option Nat)) (hg : RG kA M0 M h L pp gs 1) : cV l yX4_addItself wsX4_addItself (xR 3) [.ref (h + 61)] D kA N0 M (fun M1 => M1 = M) := by
  have hrn := hg.rn
  refine r_met (cc := cX4_addItself) (maxL := 1) (ret := none) (by decide) rfl (Nat.le_of_ble_eq_true rfl) ?_
  intro p e s m below meth c ls C hM hnm hl
  obtain ⟨hx, hb, hml, hown, hts, hr, hlocks, hK, hN⟩ := _root_.id C
  have hS : va_S (xA N0) s.heap s.heap [] := va_S.rf
  have hl : lv_has ls 1 [(0, .ref (h + 61))] := hl
  refine lv_aload_n hx hb dX4_addItself_0 rfl (lv_at hl 0 rfl) ?_
  refine x_get (v := .int (nI 1)) hx hb hts in_X4_addItself_X4 hown hK hM (hrn) rfl 5 (by decide) (hts (.fieldLink RX4 28 "LimbCurves$RunningSum" "identity" "Z") (by decide +kernel)) (fun _ h9 => h9) rfl dX4_addItself_1 ?_
  refine r_if_eqN (tgt := 8) C (by omega) dX4_addItself_4 (by decide) (fun hc => ?_) (fun hc => ?_)
  · omega
  · exact r_vret C hM hS (rfl) dX4_addItself_7
set_option maxRecDepth 100000 in
theorem c_addItself (l : Launch) (D : va_G) (kA : Nat → ClassId) (N0 : Nat) (M0 M : xM) (h L pp A x y z : Nat) (hg : RG kA M0 M h L pp [some x, some y, some z, none, none, none, none, none, none] 0) (hA : isN kA M0 (h + 3) L A) (hAb : A < pp) (hpp : 0 < pp) (hL : L < 40) : cV l yX4_addItself wsX4_addItself (xR 3) [.ref (h + 61)] D kA N0 M (fun M1 => (y = 0 ∧ RG kA M0 M1 h L pp [some x, some y, some z, none, none, none, none, none, none] 1) ∨ (0 < y ∧ ∃ x' y' z', RG kA M0 M1 h L pp [some x', some y', some z', none, none, none, none, none, none] 0 ∧ dblEq pp A x y z x' y' z')) := by
  have hrn := hg.rn
  refine r_met (cc := cX4_addItself) (maxL := 1) (ret := none) (by decide) rfl (Nat.le_of_ble_eq_true rfl) ?_
  intro p e s m below meth c ls C hM hnm hl
  obtain ⟨hx, hb, hml, hown, hts, hr, hlocks, hK, hN⟩ := _root_.id C
  have hS : va_S (xA N0) s.heap s.heap [] := va_S.rf
  have hl : lv_has ls 1 [(0, .ref (h + 61))] := hl
  refine lv_aload_n hx hb dX4_addItself_0 rfl (lv_at hl 0 rfl) ?_
  refine x_get (v := .int (nI 0)) hx hb hts in_X4_addItself_X4 hown hK hM (hrn) rfl 5 (by decide) (hts (.fieldLink RX4 28 "LimbCurves$RunningSum" "identity" "Z") (by decide +kernel)) (fun _ h9 => h9) rfl dX4_addItself_1 ?_
  refine r_if_eqN (tgt := 8) C (by omega) dX4_addItself_4 (by decide) (fun hc => ?_) (fun hc => ?_)
  · obtain ⟨⟨fy, hy, ny, Vy⟩, yb⟩ := hg.n 1 rfl
    refine lv_aload_n hx hb dX4_addItself_8 rfl (lv_at hl 0 rfl) ?_
    refine x_get (v := .ref (h + 63)) hx hb hts in_X4_addItself_X4 hown hK hM (hrn) rfl 3 (by decide) (hts (.fieldLink RX4 22 "LimbCurves$RunningSum" "y" "[I") (by decide +kernel)) (fun _ h9 => h9) rfl dX4_addItself_9 ?_
    refine r_Si (As := [.ref (h + 63)]) (rest := []) C hM hS (c_isZero l D kA N0 M (h + 63) L fy hy ny (by omega)) gX4_addItself_X1_isZero rfl rfl rfl ⟨by decide +kernel, by decide +kernel, (by decide +kernel : (parseMethodDescriptor yX1_isZero.desc).map (fun d => d.parameters.length) = some 1)⟩ ⟨Nat.le_of_ble_eq_true rfl, Nat.le_of_ble_eq_true rfl⟩ hl.1 rfl (Nat.le_of_ble_eq_true rfl) dX4_addItself_12 ⟨Nat.le_of_ble_eq_true rfl, Nat.le_of_ble_eq_true rfl⟩ (fun q M1 H locs hp hM hS => ?_)
    obtain ⟨eM, hq⟩ := hp
    rw [eM] at hM
    rw [Vy] at hq
    refine lv_if_eq (tgt := 24) hx hb dX4_addItself_15 (by decide) (fun hz => ?_) (fun hz => ?_)
    · have hy0 : 0 < y := by
        rcases hq with ⟨h1, h2⟩ | ⟨h1, h2⟩
        · rw [h1] at hz; exact absurd hz (by decide)
        · exact h2
      refine lv_aload_n hx hb dX4_addItself_24 rfl (lv_at hl 0 rfl) ?_
      refine x_get (v := .ref (h + 49)) hx hb hts in_X4_addItself_X4 hown hK hM (hrn) rfl 0 (by decide) (hts (.fieldLink RX4 9 "LimbCurves$RunningSum" "field" "LLimbCurves$Residues;") (by decide +kernel)) (fun _ h9 => h9) rfl dX4_addItself_25 ?_
      refine lv_aload_n hx hb dX4_addItself_28 rfl (lv_at hl 0 rfl) ?_
      refine x_get (v := .ref (h + 69)) hx hb hts in_X4_addItself_X4 hown hK hM (hrn) rfl 10 (by decide) (hts (.fieldLink RX4 44 "LimbCurves$RunningSum" "s" "[I") (by decide +kernel)) (fun _ h9 => h9) rfl dX4_addItself_29 ?_
      refine lv_aload_n hx hb dX4_addItself_32 rfl (lv_at hl 0 rfl) ?_
      refine x_get (v := .ref (h + 64)) hx hb hts in_X4_addItself_X4 hown hK hM (hrn) rfl 4 (by decide) (hts (.fieldLink RX4 25 "LimbCurves$RunningSum" "z" "[I") (by decide +kernel)) (fun _ h9 => h9) rfl dX4_addItself_33 ?_
      refine lv_aload_n hx hb dX4_addItself_36 rfl (lv_at hl 0 rfl) ?_
      refine x_get (v := .ref (h + 64)) hx hb hts in_X4_addItself_X4 hown hK hM (hrn) rfl 4 (by decide) (hts (.fieldLink RX4 25 "LimbCurves$RunningSum" "z" "[I") (by decide +kernel)) (fun _ h9 => h9) rfl dX4_addItself_37 ?_
      obtain ⟨z9, y9, hrf⟩ := hg.rs.ob
      refine r_Vv (As := [.ref (h + 69), .ref (h + 64), .ref (h + 64)]) (rest := []) C hM hS (c_multiply l D kA N0 _ (h + 49) L pp (h + 69) (h + 64) (h + 64) z z hg.rs hg.wk (hg.rA 7 (by decide)) ((hg.n 2 rfl).1) ((hg.n 2 rfl).1) ((hg.n 2 rfl).2) ((hg.n 2 rfl).2) (by omega) (by omega) (by omega) (by omega) (by omega)) (hrf) rfl gX4_addItself_X3_multiply rfl rfl rfl ⟨rfl, by decide +kernel, by decide +kernel, (by decide +kernel : (parseMethodDescriptor yX3_multiply.desc).map (fun d => d.parameters.length) = some 3)⟩ ⟨Nat.le_of_ble_eq_true rfl, Nat.le_of_ble_eq_true rfl⟩ hl.1 rfl (Nat.le_of_ble_eq_true rfl) dX4_addItself_40 ⟨Nat.le_of_ble_eq_true rfl, Nat.le_of_ble_eq_true rfl⟩ (fun M1 H locs hp hM hS => ?_)
      obtain ⟨q1, q2, q3⟩ := hp
      obtain ⟨s1, es1⟩ : ∃ q, q = z * z % pp := ⟨_, rfl⟩
      rw [← es1] at q1
      have hg : RG kA _ M1 h L pp [some x, some y, some z, none, none, none, none, some s1, none] 0 := hg.st 7 (by decide) q1 (by rw [es1]; exact Nat.mod_lt _ hpp) q2 (hg.sp.kept (q3 _ (by omega) (by omega))) (fun b h1 h2 _ => q3 b h1 h2)
      have hrn := hg.rn
      refine lv_aload_n hx hb dX4_addItself_43 rfl (lv_at hl 0 rfl) ?_
      refine x_get (v := .ref (h + 49)) hx hb hts in_X4_addItself_X4 hown hK hM (hrn) rfl 0 (by decide) (hts (.fieldLink RX4 9 "LimbCurves$RunningSum" "field" "LLimbCurves$Residues;") (by decide +kernel)) (fun _ h9 => h9) rfl dX4_addItself_44 ?_
      refine lv_aload_n hx hb dX4_addItself_47 rfl (lv_at hl 0 rfl) ?_
      refine x_get (v := .ref (h + 69)) hx hb hts in_X4_addItself_X4 hown hK hM (hrn) rfl 10 (by decide) (hts (.fieldLink RX4 44 "LimbCurves$RunningSum" "s" "[I") (by decide +kernel)) (fun _ h9 => h9) rfl dX4_addItself_48 ?_
      refine lv_aload_n hx hb dX4_addItself_51 rfl (lv_at hl 0 rfl) ?_
      refine x_get (v := .ref (h + 69)) hx hb hts in_X4_addItself_X4 hown hK hM (hrn) rfl 10 (by decide) (hts (.fieldLink RX4 44 "LimbCurves$RunningSum" "s" "[I") (by decide +kernel)) (fun _ h9 => h9) rfl dX4_addItself_52 ?_
      refine lv_aload_n hx hb dX4_addItself_55 rfl (lv_at hl 0 rfl) ?_
      refine x_get (v := .ref (h + 69)) hx hb hts in_X4_addItself_X4 hown hK hM (hrn) rfl 10 (by decide) (hts (.fieldLink RX4 44 "LimbCurves$RunningSum" "s" "[I") (by decide +kernel)) (fun _ h9 => h9) rfl dX4_addItself_56 ?_
      obtain ⟨z9, y9, hrf⟩ := hg.rs.ob
      refine r_Vv (As := [.ref (h + 69), .ref (h + 69), .ref (h + 69)]) (rest := []) C hM hS (c_multiply l D kA N0 _ (h + 49) L pp (h + 69) (h + 69) (h + 69) s1 s1 hg.rs hg.wk (hg.rA 7 (by decide)) ((hg.n 7 rfl).1) ((hg.n 7 rfl).1) ((hg.n 7 rfl).2) ((hg.n 7 rfl).2) (by omega) (by omega) (by omega) (by omega) (by omega)) (hrf) rfl gX4_addItself_X3_multiply rfl rfl rfl ⟨rfl, by decide +kernel, by decide +kernel, (by decide +kernel : (parseMethodDescriptor yX3_multiply.desc).map (fun d => d.parameters.length) = some 3)⟩ ⟨Nat.le_of_ble_eq_true rfl, Nat.le_of_ble_eq_true rfl⟩ hl.1 rfl (Nat.le_of_ble_eq_true rfl) dX4_addItself_59 ⟨Nat.le_of_ble_eq_true rfl, Nat.le_of_ble_eq_true rfl⟩ (fun M1 H locs hp hM hS => ?_)
      obtain ⟨q1, q2, q3⟩ := hp
      obtain ⟨s2, es2⟩ : ∃ q, q = s1 * s1 % pp := ⟨_, rfl⟩
      rw [← es2] at q1
      have hg : RG kA _ M1 h L pp [some x, some y, some z, none, none, none, none, some s2, none] 0 := hg.st 7 (by decide) q1 (by rw [es2]; exact Nat.mod_lt _ hpp) q2 (hg.sp.kept (q3 _ (by omega) (by omega))) (fun b h1 h2 _ => q3 b h1 h2)
      have hrn := hg.rn
      refine lv_aload_n hx hb dX4_addItself_62 rfl (lv_at hl 0 rfl) ?_
      refine x_get (v := .ref (h + 49)) hx hb hts in_X4_addItself_X4 hown hK hM (hrn) rfl 0 (by decide) (hts (.fieldLink RX4 9 "LimbCurves$RunningSum" "field" "LLimbCurves$Residues;") (by decide +kernel)) (fun _ h9 => h9) rfl dX4_addItself_63 ?_
      refine lv_aload_n hx hb dX4_addItself_66 rfl (lv_at hl 0 rfl) ?_
      refine x_get (v := .ref (h + 69)) hx hb hts in_X4_addItself_X4 hown hK hM (hrn) rfl 10 (by decide) (hts (.fieldLink RX4 44 "LimbCurves$RunningSum" "s" "[I") (by decide +kernel)) (fun _ h9 => h9) rfl dX4_addItself_67 ?_
      refine lv_aload_n hx hb dX4_addItself_70 rfl (lv_at hl 0 rfl) ?_
      refine x_get (v := .ref (h + 69)) hx hb hts in_X4_addItself_X4 hown hK hM (hrn) rfl 10 (by decide) (hts (.fieldLink RX4 44 "LimbCurves$RunningSum" "s" "[I") (by decide +kernel)) (fun _ h9 => h9) rfl dX4_addItself_71 ?_
      refine lv_aload_n hx hb dX4_addItself_74 rfl (lv_at hl 0 rfl) ?_
      refine x_get (v := .ref (h + 3)) hx hb hts in_X4_addItself_X4 hown hK hM (hrn) rfl 1 (by decide) (hts (.fieldLink RX4 15 "LimbCurves$RunningSum" "a" "[I") (by decide +kernel)) (fun _ h9 => h9) rfl dX4_addItself_75 ?_
      obtain ⟨z9, y9, hrf⟩ := hg.rs.ob
      refine r_Vv (As := [.ref (h + 69), .ref (h + 69), .ref (h + 3)]) (rest := []) C hM hS (c_multiply l D kA N0 _ (h + 49) L pp (h + 69) (h + 69) (h + 3) s2 A hg.rs hg.wk (hg.rA 7 (by decide)) ((hg.n 7 rfl).1) (hA.kept (hg.fr _ (by omega))) ((hg.n 7 rfl).2) (hAb) (by omega) (by omega) (by omega) (by omega) (by omega)) (hrf) rfl gX4_addItself_X3_multiply rfl rfl rfl ⟨rfl, by decide +kernel, by decide +kernel, (by decide +kernel : (parseMethodDescriptor yX3_multiply.desc).map (fun d => d.parameters.length) = some 3)⟩ ⟨Nat.le_of_ble_eq_true rfl, Nat.le_of_ble_eq_true rfl⟩ hl.1 rfl (Nat.le_of_ble_eq_true rfl) dX4_addItself_78 ⟨Nat.le_of_ble_eq_true rfl, Nat.le_of_ble_eq_true rfl⟩ (fun M1 H locs hp hM hS => ?_)
      obtain ⟨q1, q2, q3⟩ := hp
      obtain ⟨s3, es3⟩ : ∃ q, q = s2 * A % pp := ⟨_, rfl⟩
      rw [← es3] at q1
      have hg : RG kA _ M1 h L pp [some x, some y, some z, none, none, none, none, some s3, none] 0 := hg.st 7 (by decide) q1 (by rw [es3]; exact Nat.mod_lt _ hpp) q2 (hg.sp.kept (q3 _ (by omega) (by omega))) (fun b h1 h2 _ => q3 b h1 h2)
      have hrn := hg.rn
      refine lv_aload_n hx hb dX4_addItself_81 rfl (lv_at hl 0 rfl) ?_
      refine x_get (v := .ref (h + 49)) hx hb hts in_X4_addItself_X4 hown hK hM (hrn) rfl 0 (by decide) (hts (.fieldLink RX4 9 "LimbCurves$RunningSum" "field" "LLimbCurves$Residues;") (by decide +kernel)) (fun _ h9 => h9) rfl dX4_addItself_82 ?_
      refine lv_aload_n hx hb dX4_addItself_85 rfl (lv_at hl 0 rfl) ?_
      refine x_get (v := .ref (h + 68)) hx hb hts in_X4_addItself_X4 hown hK hM (hrn) rfl 9 (by decide) (hts (.fieldLink RX4 41 "LimbCurves$RunningSum" "rise" "[I") (by decide +kernel)) (fun _ h9 => h9) rfl dX4_addItself_86 ?_
      refine lv_aload_n hx hb dX4_addItself_89 rfl (lv_at hl 0 rfl) ?_
      refine x_get (v := .ref (h + 62)) hx hb hts in_X4_addItself_X4 hown hK hM (hrn) rfl 2 (by decide) (hts (.fieldLink RX4 19 "LimbCurves$RunningSum" "x" "[I") (by decide +kernel)) (fun _ h9 => h9) rfl dX4_addItself_90 ?_
      refine lv_aload_n hx hb dX4_addItself_93 rfl (lv_at hl 0 rfl) ?_
      refine x_get (v := .ref (h + 62)) hx hb hts in_X4_addItself_X4 hown hK hM (hrn) rfl 2 (by decide) (hts (.fieldLink RX4 19 "LimbCurves$RunningSum" "x" "[I") (by decide +kernel)) (fun _ h9 => h9) rfl dX4_addItself_94 ?_
      obtain ⟨z9, y9, hrf⟩ := hg.rs.ob
      refine r_Vv (As := [.ref (h + 68), .ref (h + 62), .ref (h + 62)]) (rest := []) C hM hS (c_multiply l D kA N0 _ (h + 49) L pp (h + 68) (h + 62) (h + 62) x x hg.rs hg.wk (hg.rA 6 (by decide)) ((hg.n 0 rfl).1) ((hg.n 0 rfl).1) ((hg.n 0 rfl).2) ((hg.n 0 rfl).2) (by omega) (by omega) (by omega) (by omega) (by omega)) (hrf) rfl gX4_addItself_X3_multiply rfl rfl rfl ⟨rfl, by decide +kernel, by decide +kernel, (by decide +kernel : (parseMethodDescriptor yX3_multiply.desc).map (fun d => d.parameters.length) = some 3)⟩ ⟨Nat.le_of_ble_eq_true rfl, Nat.le_of_ble_eq_true rfl⟩ hl.1 rfl (Nat.le_of_ble_eq_true rfl) dX4_addItself_97 ⟨Nat.le_of_ble_eq_true rfl, Nat.le_of_ble_eq_true rfl⟩ (fun M1 H locs hp hM hS => ?_)
      obtain ⟨q1, q2, q3⟩ := hp
      obtain ⟨r1, er1⟩ : ∃ q, q = x * x % pp := ⟨_, rfl⟩
      rw [← er1] at q1
      have hg : RG kA _ M1 h L pp [some x, some y, some z, none, none, none, some r1, some s3, none] 0 := hg.st 6 (by decide) q1 (by rw [er1]; exact Nat.mod_lt _ hpp) q2 (hg.sp.kept (q3 _ (by omega) (by omega))) (fun b h1 h2 _ => q3 b h1 h2)
      have hrn := hg.rn
      refine lv_aload_n hx hb dX4_addItself_100 rfl (lv_at hl 0 rfl) ?_
      refine x_get (v := .ref (h + 49)) hx hb hts in_X4_addItself_X4 hown hK hM (hrn) rfl 0 (by decide) (hts (.fieldLink RX4 9 "LimbCurves$RunningSum" "field" "LLimbCurves$Residues;") (by decide +kernel)) (fun _ h9 => h9) rfl dX4_addItself_101 ?_
      refine lv_aload_n hx hb dX4_addItself_104 rfl (lv_at hl 0 rfl) ?_
      refine x_get (v := .ref (h + 68)) hx hb hts in_X4_addItself_X4 hown hK hM (hrn) rfl 9 (by decide) (hts (.fieldLink RX4 41 "LimbCurves$RunningSum" "rise" "[I") (by decide +kernel)) (fun _ h9 => h9) rfl dX4_addItself_105 ?_
      refine lv_aload_n hx hb dX4_addItself_108 rfl (lv_at hl 0 rfl) ?_
      refine x_get (v := .ref (h + 68)) hx hb hts in_X4_addItself_X4 hown hK hM (hrn) rfl 9 (by decide) (hts (.fieldLink RX4 41 "LimbCurves$RunningSum" "rise" "[I") (by decide +kernel)) (fun _ h9 => h9) rfl dX4_addItself_109 ?_
      obtain ⟨z9, y9, hrf⟩ := hg.rs.ob
      refine r_Vv (As := [.ref (h + 68), .ref (h + 68)]) (rest := []) C hM hS (c_thrice l D kA N0 _ (h + 49) L pp (h + 68) (h + 68) r1 hg.rs hg.sp (hg.rA 6 (by decide)) ((hg.n 6 rfl).1) ((hg.n 6 rfl).2) (by omega) (by omega) (by omega)) (hrf) rfl gX4_addItself_X3_thrice rfl rfl rfl ⟨rfl, by decide +kernel, by decide +kernel, (by decide +kernel : (parseMethodDescriptor yX3_thrice.desc).map (fun d => d.parameters.length) = some 2)⟩ ⟨Nat.le_of_ble_eq_true rfl, Nat.le_of_ble_eq_true rfl⟩ hl.1 rfl (Nat.le_of_ble_eq_true rfl) dX4_addItself_112 ⟨Nat.le_of_ble_eq_true rfl, Nat.le_of_ble_eq_true rfl⟩ (fun M1 H locs hp hM hS => ?_)
      obtain ⟨q1, q2, q3⟩ := hp
      obtain ⟨r2, er2⟩ : ∃ q, q = ((r1 + r1) % pp + r1) % pp := ⟨_, rfl⟩
      rw [← er2] at q1
      have hg : RG kA _ M1 h L pp [some x, some y, some z, none, none, none, some r2, some s3, none] 0 := hg.st 6 (by decide) q1 (by rw [er2]; exact Nat.mod_lt _ hpp) (hg.wk.kept (q3 _ (by omega) (by omega))) q2 (fun b h1 _ h3 => q3 b h1 h3)
      have hrn := hg.rn
      refine lv_aload_n hx hb dX4_addItself_115 rfl (lv_at hl 0 rfl) ?_
      refine x_get (v := .ref (h + 49)) hx hb hts in_X4_addItself_X4 hown hK hM (hrn) rfl 0 (by decide) (hts (.fieldLink RX4 9 "LimbCurves$RunningSum" "field" "LLimbCurves$Residues;") (by decide +kernel)) (fun _ h9 => h9) rfl dX4_addItself_116 ?_
      refine lv_aload_n hx hb dX4_addItself_119 rfl (lv_at hl 0 rfl) ?_
      refine x_get (v := .ref (h + 68)) hx hb hts in_X4_addItself_X4 hown hK hM (hrn) rfl 9 (by decide) (hts (.fieldLink RX4 41 "LimbCurves$RunningSum" "rise" "[I") (by decide +kernel)) (fun _ h9 => h9) rfl dX4_addItself_120 ?_
      refine lv_aload_n hx hb dX4_addItself_123 rfl (lv_at hl 0 rfl) ?_
      refine x_get (v := .ref (h + 68)) hx hb hts in_X4_addItself_X4 hown hK hM (hrn) rfl 9 (by decide) (hts (.fieldLink RX4 41 "LimbCurves$RunningSum" "rise" "[I") (by decide +kernel)) (fun _ h9 => h9) rfl dX4_addItself_124 ?_
      refine lv_aload_n hx hb dX4_addItself_127 rfl (lv_at hl 0 rfl) ?_
      refine x_get (v := .ref (h + 69)) hx hb hts in_X4_addItself_X4 hown hK hM (hrn) rfl 10 (by decide) (hts (.fieldLink RX4 44 "LimbCurves$RunningSum" "s" "[I") (by decide +kernel)) (fun _ h9 => h9) rfl dX4_addItself_128 ?_
      obtain ⟨z9, y9, hrf⟩ := hg.rs.ob
      refine r_Vv (As := [.ref (h + 68), .ref (h + 68), .ref (h + 69)]) (rest := []) C hM hS (c_add l D kA N0 _ (h + 49) L pp (h + 68) (h + 68) (h + 69) r2 s3 hg.rs (hg.rA 6 (by decide)) ((hg.n 6 rfl).1) ((hg.n 7 rfl).1) ((hg.n 6 rfl).2) ((hg.n 7 rfl).2) (by omega) (by omega)) (hrf) rfl gX4_addItself_X3_add rfl rfl rfl ⟨rfl, by decide +kernel, by decide +kernel, (by decide +kernel : (parseMethodDescriptor yX3_add.desc).map (fun d => d.parameters.length) = some 3)⟩ ⟨Nat.le_of_ble_eq_true rfl, Nat.le_of_ble_eq_true rfl⟩ hl.1 rfl (Nat.le_of_ble_eq_true rfl) dX4_addItself_131 ⟨Nat.le_of_ble_eq_true rfl, Nat.le_of_ble_eq_true rfl⟩ (fun M1 H locs hp hM hS => ?_)
      obtain ⟨q1, q3⟩ := hp
      obtain ⟨r3, er3⟩ : ∃ q, q = (r2 + s3) % pp := ⟨_, rfl⟩
      rw [← er3] at q1
      have hg : RG kA _ M1 h L pp [some x, some y, some z, none, none, none, some r3, some s3, none] 0 := hg.st 6 (by decide) q1 (by rw [er3]; exact Nat.mod_lt _ hpp) (hg.wk.kept (q3 _ (by omega))) (hg.sp.kept (q3 _ (by omega))) (fun b h1 _ _ => q3 b h1)
      have hrn := hg.rn
      refine lv_aload_n hx hb dX4_addItself_134 rfl (lv_at hl 0 rfl) ?_
      refine x_get (v := .ref (h + 49)) hx hb hts in_X4_addItself_X4 hown hK hM (hrn) rfl 0 (by decide) (hts (.fieldLink RX4 9 "LimbCurves$RunningSum" "field" "LLimbCurves$Residues;") (by decide +kernel)) (fun _ h9 => h9) rfl dX4_addItself_135 ?_
      refine lv_aload_n hx hb dX4_addItself_138 rfl (lv_at hl 0 rfl) ?_
      refine x_get (v := .ref (h + 64)) hx hb hts in_X4_addItself_X4 hown hK hM (hrn) rfl 4 (by decide) (hts (.fieldLink RX4 25 "LimbCurves$RunningSum" "z" "[I") (by decide +kernel)) (fun _ h9 => h9) rfl dX4_addItself_139 ?_
      refine lv_aload_n hx hb dX4_addItself_142 rfl (lv_at hl 0 rfl) ?_
      refine x_get (v := .ref (h + 64)) hx hb hts in_X4_addItself_X4 hown hK hM (hrn) rfl 4 (by decide) (hts (.fieldLink RX4 25 "LimbCurves$RunningSum" "z" "[I") (by decide +kernel)) (fun _ h9 => h9) rfl dX4_addItself_143 ?_
      refine lv_aload_n hx hb dX4_addItself_146 rfl (lv_at hl 0 rfl) ?_
      refine x_get (v := .ref (h + 63)) hx hb hts in_X4_addItself_X4 hown hK hM (hrn) rfl 3 (by decide) (hts (.fieldLink RX4 22 "LimbCurves$RunningSum" "y" "[I") (by decide +kernel)) (fun _ h9 => h9) rfl dX4_addItself_147 ?_
      obtain ⟨z9, y9, hrf⟩ := hg.rs.ob
      refine r_Vv (As := [.ref (h + 64), .ref (h + 64), .ref (h + 63)]) (rest := []) C hM hS (c_multiply l D kA N0 _ (h + 49) L pp (h + 64) (h + 64) (h + 63) z y hg.rs hg.wk (hg.rA 2 (by decide)) ((hg.n 2 rfl).1) ((hg.n 1 rfl).1) ((hg.n 2 rfl).2) ((hg.n 1 rfl).2) (by omega) (by omega) (by omega) (by omega) (by omega)) (hrf) rfl gX4_addItself_X3_multiply rfl rfl rfl ⟨rfl, by decide +kernel, by decide +kernel, (by decide +kernel : (parseMethodDescriptor yX3_multiply.desc).map (fun d => d.parameters.length) = some 3)⟩ ⟨Nat.le_of_ble_eq_true rfl, Nat.le_of_ble_eq_true rfl⟩ hl.1 rfl (Nat.le_of_ble_eq_true rfl) dX4_addItself_150 ⟨Nat.le_of_ble_eq_true rfl, Nat.le_of_ble_eq_true rfl⟩ (fun M1 H locs hp hM hS => ?_)
      obtain ⟨q1, q2, q3⟩ := hp
      obtain ⟨z1, ez1⟩ : ∃ q, q = z * y % pp := ⟨_, rfl⟩
      rw [← ez1] at q1
      have hg : RG kA _ M1 h L pp [some x, some y, some z1, none, none, none, some r3, some s3, none] 0 := hg.st 2 (by decide) q1 (by rw [ez1]; exact Nat.mod_lt _ hpp) q2 (hg.sp.kept (q3 _ (by omega) (by omega))) (fun b h1 h2 _ => q3 b h1 h2)
      have hrn := hg.rn
      refine lv_aload_n hx hb dX4_addItself_153 rfl (lv_at hl 0 rfl) ?_
      refine x_get (v := .ref (h + 49)) hx hb hts in_X4_addItself_X4 hown hK hM (hrn) rfl 0 (by decide) (hts (.fieldLink RX4 9 "LimbCurves$RunningSum" "field" "LLimbCurves$Residues;") (by decide +kernel)) (fun _ h9 => h9) rfl dX4_addItself_154 ?_
      refine lv_aload_n hx hb dX4_addItself_157 rfl (lv_at hl 0 rfl) ?_
      refine x_get (v := .ref (h + 64)) hx hb hts in_X4_addItself_X4 hown hK hM (hrn) rfl 4 (by decide) (hts (.fieldLink RX4 25 "LimbCurves$RunningSum" "z" "[I") (by decide +kernel)) (fun _ h9 => h9) rfl dX4_addItself_158 ?_
      refine lv_aload_n hx hb dX4_addItself_161 rfl (lv_at hl 0 rfl) ?_
      refine x_get (v := .ref (h + 64)) hx hb hts in_X4_addItself_X4 hown hK hM (hrn) rfl 4 (by decide) (hts (.fieldLink RX4 25 "LimbCurves$RunningSum" "z" "[I") (by decide +kernel)) (fun _ h9 => h9) rfl dX4_addItself_162 ?_
      obtain ⟨z9, y9, hrf⟩ := hg.rs.ob
      refine r_Vv (As := [.ref (h + 64), .ref (h + 64)]) (rest := []) C hM hS (c_twice l D kA N0 _ (h + 49) L pp (h + 64) (h + 64) z1 hg.rs (hg.rA 2 (by decide)) ((hg.n 2 rfl).1) ((hg.n 2 rfl).2) (by omega) (by omega)) (hrf) rfl gX4_addItself_X3_twice rfl rfl rfl ⟨rfl, by decide +kernel, by decide +kernel, (by decide +kernel : (parseMethodDescriptor yX3_twice.desc).map (fun d => d.parameters.length) = some 2)⟩ ⟨Nat.le_of_ble_eq_true rfl, Nat.le_of_ble_eq_true rfl⟩ hl.1 rfl (Nat.le_of_ble_eq_true rfl) dX4_addItself_165 ⟨Nat.le_of_ble_eq_true rfl, Nat.le_of_ble_eq_true rfl⟩ (fun M1 H locs hp hM hS => ?_)
      obtain ⟨q1, q3⟩ := hp
      obtain ⟨z2, ez2⟩ : ∃ q, q = (z1 + z1) % pp := ⟨_, rfl⟩
      rw [← ez2] at q1
      have hg : RG kA _ M1 h L pp [some x, some y, some z2, none, none, none, some r3, some s3, none] 0 := hg.st 2 (by decide) q1 (by rw [ez2]; exact Nat.mod_lt _ hpp) (hg.wk.kept (q3 _ (by omega))) (hg.sp.kept (q3 _ (by omega))) (fun b h1 _ _ => q3 b h1)
      have hrn := hg.rn
      refine lv_aload_n hx hb dX4_addItself_168 rfl (lv_at hl 0 rfl) ?_
      refine x_get (v := .ref (h + 49)) hx hb hts in_X4_addItself_X4 hown hK hM (hrn) rfl 0 (by decide) (hts (.fieldLink RX4 9 "LimbCurves$RunningSum" "field" "LLimbCurves$Residues;") (by decide +kernel)) (fun _ h9 => h9) rfl dX4_addItself_169 ?_
      refine lv_aload_n hx hb dX4_addItself_172 rfl (lv_at hl 0 rfl) ?_
      refine x_get (v := .ref (h + 69)) hx hb hts in_X4_addItself_X4 hown hK hM (hrn) rfl 10 (by decide) (hts (.fieldLink RX4 44 "LimbCurves$RunningSum" "s" "[I") (by decide +kernel)) (fun _ h9 => h9) rfl dX4_addItself_173 ?_
      refine lv_aload_n hx hb dX4_addItself_176 rfl (lv_at hl 0 rfl) ?_
      refine x_get (v := .ref (h + 63)) hx hb hts in_X4_addItself_X4 hown hK hM (hrn) rfl 3 (by decide) (hts (.fieldLink RX4 22 "LimbCurves$RunningSum" "y" "[I") (by decide +kernel)) (fun _ h9 => h9) rfl dX4_addItself_177 ?_
      refine lv_aload_n hx hb dX4_addItself_180 rfl (lv_at hl 0 rfl) ?_
      refine x_get (v := .ref (h + 63)) hx hb hts in_X4_addItself_X4 hown hK hM (hrn) rfl 3 (by decide) (hts (.fieldLink RX4 22 "LimbCurves$RunningSum" "y" "[I") (by decide +kernel)) (fun _ h9 => h9) rfl dX4_addItself_181 ?_
      obtain ⟨z9, y9, hrf⟩ := hg.rs.ob
      refine r_Vv (As := [.ref (h + 69), .ref (h + 63), .ref (h + 63)]) (rest := []) C hM hS (c_multiply l D kA N0 _ (h + 49) L pp (h + 69) (h + 63) (h + 63) y y hg.rs hg.wk (hg.rA 7 (by decide)) ((hg.n 1 rfl).1) ((hg.n 1 rfl).1) ((hg.n 1 rfl).2) ((hg.n 1 rfl).2) (by omega) (by omega) (by omega) (by omega) (by omega)) (hrf) rfl gX4_addItself_X3_multiply rfl rfl rfl ⟨rfl, by decide +kernel, by decide +kernel, (by decide +kernel : (parseMethodDescriptor yX3_multiply.desc).map (fun d => d.parameters.length) = some 3)⟩ ⟨Nat.le_of_ble_eq_true rfl, Nat.le_of_ble_eq_true rfl⟩ hl.1 rfl (Nat.le_of_ble_eq_true rfl) dX4_addItself_184 ⟨Nat.le_of_ble_eq_true rfl, Nat.le_of_ble_eq_true rfl⟩ (fun M1 H locs hp hM hS => ?_)
      obtain ⟨q1, q2, q3⟩ := hp
      obtain ⟨s4, es4⟩ : ∃ q, q = y * y % pp := ⟨_, rfl⟩
      rw [← es4] at q1
      have hg : RG kA _ M1 h L pp [some x, some y, some z2, none, none, none, some r3, some s4, none] 0 := hg.st 7 (by decide) q1 (by rw [es4]; exact Nat.mod_lt _ hpp) q2 (hg.sp.kept (q3 _ (by omega) (by omega))) (fun b h1 h2 _ => q3 b h1 h2)
      have hrn := hg.rn
      refine lv_aload_n hx hb dX4_addItself_187 rfl (lv_at hl 0 rfl) ?_
      refine x_get (v := .ref (h + 49)) hx hb hts in_X4_addItself_X4 hown hK hM (hrn) rfl 0 (by decide) (hts (.fieldLink RX4 9 "LimbCurves$RunningSum" "field" "LLimbCurves$Residues;") (by decide +kernel)) (fun _ h9 => h9) rfl dX4_addItself_188 ?_
      refine lv_aload_n hx hb dX4_addItself_191 rfl (lv_at hl 0 rfl) ?_
      refine x_get (v := .ref (h + 70)) hx hb hts in_X4_addItself_X4 hown hK hM (hrn) rfl 11 (by decide) (hts (.fieldLink RX4 47 "LimbCurves$RunningSum" "t" "[I") (by decide +kernel)) (fun _ h9 => h9) rfl dX4_addItself_192 ?_
      refine lv_aload_n hx hb dX4_addItself_195 rfl (lv_at hl 0 rfl) ?_
      refine x_get (v := .ref (h + 62)) hx hb hts in_X4_addItself_X4 hown hK hM (hrn) rfl 2 (by decide) (hts (.fieldLink RX4 19 "LimbCurves$RunningSum" "x" "[I") (by decide +kernel)) (fun _ h9 => h9) rfl dX4_addItself_196 ?_
      refine lv_aload_n hx hb dX4_addItself_199 rfl (lv_at hl 0 rfl) ?_
      refine x_get (v := .ref (h + 69)) hx hb hts in_X4_addItself_X4 hown hK hM (hrn) rfl 10 (by decide) (hts (.fieldLink RX4 44 "LimbCurves$RunningSum" "s" "[I") (by decide +kernel)) (fun _ h9 => h9) rfl dX4_addItself_200 ?_
      obtain ⟨z9, y9, hrf⟩ := hg.rs.ob
      refine r_Vv (As := [.ref (h + 70), .ref (h + 62), .ref (h + 69)]) (rest := []) C hM hS (c_multiply l D kA N0 _ (h + 49) L pp (h + 70) (h + 62) (h + 69) x s4 hg.rs hg.wk (hg.rA 8 (by decide)) ((hg.n 0 rfl).1) ((hg.n 7 rfl).1) ((hg.n 0 rfl).2) ((hg.n 7 rfl).2) (by omega) (by omega) (by omega) (by omega) (by omega)) (hrf) rfl gX4_addItself_X3_multiply rfl rfl rfl ⟨rfl, by decide +kernel, by decide +kernel, (by decide +kernel : (parseMethodDescriptor yX3_multiply.desc).map (fun d => d.parameters.length) = some 3)⟩ ⟨Nat.le_of_ble_eq_true rfl, Nat.le_of_ble_eq_true rfl⟩ hl.1 rfl (Nat.le_of_ble_eq_true rfl) dX4_addItself_203 ⟨Nat.le_of_ble_eq_true rfl, Nat.le_of_ble_eq_true rfl⟩ (fun M1 H locs hp hM hS => ?_)
      obtain ⟨q1, q2, q3⟩ := hp
      obtain ⟨t1, et1⟩ : ∃ q, q = x * s4 % pp := ⟨_, rfl⟩
      rw [← et1] at q1
      have hg : RG kA _ M1 h L pp [some x, some y, some z2, none, none, none, some r3, some s4, some t1] 0 := hg.st 8 (by decide) q1 (by rw [et1]; exact Nat.mod_lt _ hpp) q2 (hg.sp.kept (q3 _ (by omega) (by omega))) (fun b h1 h2 _ => q3 b h1 h2)
      have hrn := hg.rn
      refine lv_aload_n hx hb dX4_addItself_206 rfl (lv_at hl 0 rfl) ?_
      refine x_get (v := .ref (h + 49)) hx hb hts in_X4_addItself_X4 hown hK hM (hrn) rfl 0 (by decide) (hts (.fieldLink RX4 9 "LimbCurves$RunningSum" "field" "LLimbCurves$Residues;") (by decide +kernel)) (fun _ h9 => h9) rfl dX4_addItself_207 ?_
      refine lv_aload_n hx hb dX4_addItself_210 rfl (lv_at hl 0 rfl) ?_
      refine x_get (v := .ref (h + 70)) hx hb hts in_X4_addItself_X4 hown hK hM (hrn) rfl 11 (by decide) (hts (.fieldLink RX4 47 "LimbCurves$RunningSum" "t" "[I") (by decide +kernel)) (fun _ h9 => h9) rfl dX4_addItself_211 ?_
      refine lv_aload_n hx hb dX4_addItself_214 rfl (lv_at hl 0 rfl) ?_
      refine x_get (v := .ref (h + 70)) hx hb hts in_X4_addItself_X4 hown hK hM (hrn) rfl 11 (by decide) (hts (.fieldLink RX4 47 "LimbCurves$RunningSum" "t" "[I") (by decide +kernel)) (fun _ h9 => h9) rfl dX4_addItself_215 ?_
      obtain ⟨z9, y9, hrf⟩ := hg.rs.ob
      refine r_Vv (As := [.ref (h + 70), .ref (h + 70)]) (rest := []) C hM hS (c_twice l D kA N0 _ (h + 49) L pp (h + 70) (h + 70) t1 hg.rs (hg.rA 8 (by decide)) ((hg.n 8 rfl).1) ((hg.n 8 rfl).2) (by omega) (by omega)) (hrf) rfl gX4_addItself_X3_twice rfl rfl rfl ⟨rfl, by decide +kernel, by decide +kernel, (by decide +kernel : (parseMethodDescriptor yX3_twice.desc).map (fun d => d.parameters.length) = some 2)⟩ ⟨Nat.le_of_ble_eq_true rfl, Nat.le_of_ble_eq_true rfl⟩ hl.1 rfl (Nat.le_of_ble_eq_true rfl) dX4_addItself_218 ⟨Nat.le_of_ble_eq_true rfl, Nat.le_of_ble_eq_true rfl⟩ (fun M1 H locs hp hM hS => ?_)
      obtain ⟨q1, q3⟩ := hp
      obtain ⟨t2, et2⟩ : ∃ q, q = (t1 + t1) % pp := ⟨_, rfl⟩
      rw [← et2] at q1
      have hg : RG kA _ M1 h L pp [some x, some y, some z2, none, none, none, some r3, some s4, some t2] 0 := hg.st 8 (by decide) q1 (by rw [et2]; exact Nat.mod_lt _ hpp) (hg.wk.kept (q3 _ (by omega))) (hg.sp.kept (q3 _ (by omega))) (fun b h1 _ _ => q3 b h1)
      have hrn := hg.rn
      refine lv_aload_n hx hb dX4_addItself_221 rfl (lv_at hl 0 rfl) ?_
      refine x_get (v := .ref (h + 49)) hx hb hts in_X4_addItself_X4 hown hK hM (hrn) rfl 0 (by decide) (hts (.fieldLink RX4 9 "LimbCurves$RunningSum" "field" "LLimbCurves$Residues;") (by decide +kernel)) (fun _ h9 => h9) rfl dX4_addItself_222 ?_
      refine lv_aload_n hx hb dX4_addItself_225 rfl (lv_at hl 0 rfl) ?_
      refine x_get (v := .ref (h + 70)) hx hb hts in_X4_addItself_X4 hown hK hM (hrn) rfl 11 (by decide) (hts (.fieldLink RX4 47 "LimbCurves$RunningSum" "t" "[I") (by decide +kernel)) (fun _ h9 => h9) rfl dX4_addItself_226 ?_
      refine lv_aload_n hx hb dX4_addItself_229 rfl (lv_at hl 0 rfl) ?_
      refine x_get (v := .ref (h + 70)) hx hb hts in_X4_addItself_X4 hown hK hM (hrn) rfl 11 (by decide) (hts (.fieldLink RX4 47 "LimbCurves$RunningSum" "t" "[I") (by decide +kernel)) (fun _ h9 => h9) rfl dX4_addItself_230 ?_
      obtain ⟨z9, y9, hrf⟩ := hg.rs.ob
      refine r_Vv (As := [.ref (h + 70), .ref (h + 70)]) (rest := []) C hM hS (c_twice l D kA N0 _ (h + 49) L pp (h + 70) (h + 70) t2 hg.rs (hg.rA 8 (by decide)) ((hg.n 8 rfl).1) ((hg.n 8 rfl).2) (by omega) (by omega)) (hrf) rfl gX4_addItself_X3_twice rfl rfl rfl ⟨rfl, by decide +kernel, by decide +kernel, (by decide +kernel : (parseMethodDescriptor yX3_twice.desc).map (fun d => d.parameters.length) = some 2)⟩ ⟨Nat.le_of_ble_eq_true rfl, Nat.le_of_ble_eq_true rfl⟩ hl.1 rfl (Nat.le_of_ble_eq_true rfl) dX4_addItself_233 ⟨Nat.le_of_ble_eq_true rfl, Nat.le_of_ble_eq_true rfl⟩ (fun M1 H locs hp hM hS => ?_)
      obtain ⟨q1, q3⟩ := hp
      obtain ⟨t3, et3⟩ : ∃ q, q = (t2 + t2) % pp := ⟨_, rfl⟩
      rw [← et3] at q1
      have hg : RG kA _ M1 h L pp [some x, some y, some z2, none, none, none, some r3, some s4, some t3] 0 := hg.st 8 (by decide) q1 (by rw [et3]; exact Nat.mod_lt _ hpp) (hg.wk.kept (q3 _ (by omega))) (hg.sp.kept (q3 _ (by omega))) (fun b h1 _ _ => q3 b h1)
      have hrn := hg.rn
      refine lv_aload_n hx hb dX4_addItself_236 rfl (lv_at hl 0 rfl) ?_
      refine x_get (v := .ref (h + 49)) hx hb hts in_X4_addItself_X4 hown hK hM (hrn) rfl 0 (by decide) (hts (.fieldLink RX4 9 "LimbCurves$RunningSum" "field" "LLimbCurves$Residues;") (by decide +kernel)) (fun _ h9 => h9) rfl dX4_addItself_237 ?_
      refine lv_aload_n hx hb dX4_addItself_240 rfl (lv_at hl 0 rfl) ?_
      refine x_get (v := .ref (h + 62)) hx hb hts in_X4_addItself_X4 hown hK hM (hrn) rfl 2 (by decide) (hts (.fieldLink RX4 19 "LimbCurves$RunningSum" "x" "[I") (by decide +kernel)) (fun _ h9 => h9) rfl dX4_addItself_241 ?_
      refine lv_aload_n hx hb dX4_addItself_244 rfl (lv_at hl 0 rfl) ?_
      refine x_get (v := .ref (h + 68)) hx hb hts in_X4_addItself_X4 hown hK hM (hrn) rfl 9 (by decide) (hts (.fieldLink RX4 41 "LimbCurves$RunningSum" "rise" "[I") (by decide +kernel)) (fun _ h9 => h9) rfl dX4_addItself_245 ?_
      refine lv_aload_n hx hb dX4_addItself_248 rfl (lv_at hl 0 rfl) ?_
      refine x_get (v := .ref (h + 68)) hx hb hts in_X4_addItself_X4 hown hK hM (hrn) rfl 9 (by decide) (hts (.fieldLink RX4 41 "LimbCurves$RunningSum" "rise" "[I") (by decide +kernel)) (fun _ h9 => h9) rfl dX4_addItself_249 ?_
      obtain ⟨z9, y9, hrf⟩ := hg.rs.ob
      refine r_Vv (As := [.ref (h + 62), .ref (h + 68), .ref (h + 68)]) (rest := []) C hM hS (c_multiply l D kA N0 _ (h + 49) L pp (h + 62) (h + 68) (h + 68) r3 r3 hg.rs hg.wk (hg.rA 0 (by decide)) ((hg.n 6 rfl).1) ((hg.n 6 rfl).1) ((hg.n 6 rfl).2) ((hg.n 6 rfl).2) (by omega) (by omega) (by omega) (by omega) (by omega)) (hrf) rfl gX4_addItself_X3_multiply rfl rfl rfl ⟨rfl, by decide +kernel, by decide +kernel, (by decide +kernel : (parseMethodDescriptor yX3_multiply.desc).map (fun d => d.parameters.length) = some 3)⟩ ⟨Nat.le_of_ble_eq_true rfl, Nat.le_of_ble_eq_true rfl⟩ hl.1 rfl (Nat.le_of_ble_eq_true rfl) dX4_addItself_252 ⟨Nat.le_of_ble_eq_true rfl, Nat.le_of_ble_eq_true rfl⟩ (fun M1 H locs hp hM hS => ?_)
      obtain ⟨q1, q2, q3⟩ := hp
      obtain ⟨x1, ex1⟩ : ∃ q, q = r3 * r3 % pp := ⟨_, rfl⟩
      rw [← ex1] at q1
      have hg : RG kA _ M1 h L pp [some x1, some y, some z2, none, none, none, some r3, some s4, some t3] 0 := hg.st 0 (by decide) q1 (by rw [ex1]; exact Nat.mod_lt _ hpp) q2 (hg.sp.kept (q3 _ (by omega) (by omega))) (fun b h1 h2 _ => q3 b h1 h2)
      have hrn := hg.rn
      refine lv_aload_n hx hb dX4_addItself_255 rfl (lv_at hl 0 rfl) ?_
      refine x_get (v := .ref (h + 49)) hx hb hts in_X4_addItself_X4 hown hK hM (hrn) rfl 0 (by decide) (hts (.fieldLink RX4 9 "LimbCurves$RunningSum" "field" "LLimbCurves$Residues;") (by decide +kernel)) (fun _ h9 => h9) rfl dX4_addItself_256 ?_
      refine lv_aload_n hx hb dX4_addItself_259 rfl (lv_at hl 0 rfl) ?_
      refine x_get (v := .ref (h + 62)) hx hb hts in_X4_addItself_X4 hown hK hM (hrn) rfl 2 (by decide) (hts (.fieldLink RX4 19 "LimbCurves$RunningSum" "x" "[I") (by decide +kernel)) (fun _ h9 => h9) rfl dX4_addItself_260 ?_
      refine lv_aload_n hx hb dX4_addItself_263 rfl (lv_at hl 0 rfl) ?_
      refine x_get (v := .ref (h + 62)) hx hb hts in_X4_addItself_X4 hown hK hM (hrn) rfl 2 (by decide) (hts (.fieldLink RX4 19 "LimbCurves$RunningSum" "x" "[I") (by decide +kernel)) (fun _ h9 => h9) rfl dX4_addItself_264 ?_
      refine lv_aload_n hx hb dX4_addItself_267 rfl (lv_at hl 0 rfl) ?_
      refine x_get (v := .ref (h + 70)) hx hb hts in_X4_addItself_X4 hown hK hM (hrn) rfl 11 (by decide) (hts (.fieldLink RX4 47 "LimbCurves$RunningSum" "t" "[I") (by decide +kernel)) (fun _ h9 => h9) rfl dX4_addItself_268 ?_
      obtain ⟨z9, y9, hrf⟩ := hg.rs.ob
      refine r_Vv (As := [.ref (h + 62), .ref (h + 62), .ref (h + 70)]) (rest := []) C hM hS (c_subtract l D kA N0 _ (h + 49) L pp (h + 62) (h + 62) (h + 70) x1 t3 (nI z9) (nI y9) hrf hg.rs.md (hg.rA 0 (by decide)) ((hg.n 0 rfl).1) ((hg.n 8 rfl).1) ((hg.n 0 rfl).2) (Nat.le_of_lt ((hg.n 8 rfl).2)) (by omega) (by omega)) (hrf) rfl gX4_addItself_X3_subtract rfl rfl rfl ⟨rfl, by decide +kernel, by decide +kernel, (by decide +kernel : (parseMethodDescriptor yX3_subtract.desc).map (fun d => d.parameters.length) = some 3)⟩ ⟨Nat.le_of_ble_eq_true rfl, Nat.le_of_ble_eq_true rfl⟩ hl.1 rfl (Nat.le_of_ble_eq_true rfl) dX4_addItself_271 ⟨Nat.le_of_ble_eq_true rfl, Nat.le_of_ble_eq_true rfl⟩ (fun M1 H locs hp hM hS => ?_)
      obtain ⟨q1, q3⟩ := hp
      obtain ⟨x2, ex2⟩ : ∃ q, q = (x1 + (pp - t3)) % pp := ⟨_, rfl⟩
      rw [← ex2] at q1
      have hg : RG kA _ M1 h L pp [some x2, some y, some z2, none, none, none, some r3, some s4, some t3] 0 := hg.st 0 (by decide) q1 (by rw [ex2]; exact Nat.mod_lt _ hpp) (hg.wk.kept (q3 _ (by omega))) (hg.sp.kept (q3 _ (by omega))) (fun b h1 _ _ => q3 b h1)
      have hrn := hg.rn
      refine lv_aload_n hx hb dX4_addItself_274 rfl (lv_at hl 0 rfl) ?_
      refine x_get (v := .ref (h + 49)) hx hb hts in_X4_addItself_X4 hown hK hM (hrn) rfl 0 (by decide) (hts (.fieldLink RX4 9 "LimbCurves$RunningSum" "field" "LLimbCurves$Residues;") (by decide +kernel)) (fun _ h9 => h9) rfl dX4_addItself_275 ?_
      refine lv_aload_n hx hb dX4_addItself_278 rfl (lv_at hl 0 rfl) ?_
      refine x_get (v := .ref (h + 62)) hx hb hts in_X4_addItself_X4 hown hK hM (hrn) rfl 2 (by decide) (hts (.fieldLink RX4 19 "LimbCurves$RunningSum" "x" "[I") (by decide +kernel)) (fun _ h9 => h9) rfl dX4_addItself_279 ?_
      refine lv_aload_n hx hb dX4_addItself_282 rfl (lv_at hl 0 rfl) ?_
      refine x_get (v := .ref (h + 62)) hx hb hts in_X4_addItself_X4 hown hK hM (hrn) rfl 2 (by decide) (hts (.fieldLink RX4 19 "LimbCurves$RunningSum" "x" "[I") (by decide +kernel)) (fun _ h9 => h9) rfl dX4_addItself_283 ?_
      refine lv_aload_n hx hb dX4_addItself_286 rfl (lv_at hl 0 rfl) ?_
      refine x_get (v := .ref (h + 70)) hx hb hts in_X4_addItself_X4 hown hK hM (hrn) rfl 11 (by decide) (hts (.fieldLink RX4 47 "LimbCurves$RunningSum" "t" "[I") (by decide +kernel)) (fun _ h9 => h9) rfl dX4_addItself_287 ?_
      obtain ⟨z9, y9, hrf⟩ := hg.rs.ob
      refine r_Vv (As := [.ref (h + 62), .ref (h + 62), .ref (h + 70)]) (rest := []) C hM hS (c_subtract l D kA N0 _ (h + 49) L pp (h + 62) (h + 62) (h + 70) x2 t3 (nI z9) (nI y9) hrf hg.rs.md (hg.rA 0 (by decide)) ((hg.n 0 rfl).1) ((hg.n 8 rfl).1) ((hg.n 0 rfl).2) (Nat.le_of_lt ((hg.n 8 rfl).2)) (by omega) (by omega)) (hrf) rfl gX4_addItself_X3_subtract rfl rfl rfl ⟨rfl, by decide +kernel, by decide +kernel, (by decide +kernel : (parseMethodDescriptor yX3_subtract.desc).map (fun d => d.parameters.length) = some 3)⟩ ⟨Nat.le_of_ble_eq_true rfl, Nat.le_of_ble_eq_true rfl⟩ hl.1 rfl (Nat.le_of_ble_eq_true rfl) dX4_addItself_290 ⟨Nat.le_of_ble_eq_true rfl, Nat.le_of_ble_eq_true rfl⟩ (fun M1 H locs hp hM hS => ?_)
      obtain ⟨q1, q3⟩ := hp
      obtain ⟨x3, ex3⟩ : ∃ q, q = (x2 + (pp - t3)) % pp := ⟨_, rfl⟩
      rw [← ex3] at q1
      have hg : RG kA _ M1 h L pp [some x3, some y, some z2, none, none, none, some r3, some s4, some t3] 0 := hg.st 0 (by decide) q1 (by rw [ex3]; exact Nat.mod_lt _ hpp) (hg.wk.kept (q3 _ (by omega))) (hg.sp.kept (q3 _ (by omega))) (fun b h1 _ _ => q3 b h1)
      have hrn := hg.rn
      refine lv_aload_n hx hb dX4_addItself_293 rfl (lv_at hl 0 rfl) ?_
      refine x_get (v := .ref (h + 49)) hx hb hts in_X4_addItself_X4 hown hK hM (hrn) rfl 0 (by decide) (hts (.fieldLink RX4 9 "LimbCurves$RunningSum" "field" "LLimbCurves$Residues;") (by decide +kernel)) (fun _ h9 => h9) rfl dX4_addItself_294 ?_
      refine lv_aload_n hx hb dX4_addItself_297 rfl (lv_at hl 0 rfl) ?_
      refine x_get (v := .ref (h + 70)) hx hb hts in_X4_addItself_X4 hown hK hM (hrn) rfl 11 (by decide) (hts (.fieldLink RX4 47 "LimbCurves$RunningSum" "t" "[I") (by decide +kernel)) (fun _ h9 => h9) rfl dX4_addItself_298 ?_
      refine lv_aload_n hx hb dX4_addItself_301 rfl (lv_at hl 0 rfl) ?_
      refine x_get (v := .ref (h + 70)) hx hb hts in_X4_addItself_X4 hown hK hM (hrn) rfl 11 (by decide) (hts (.fieldLink RX4 47 "LimbCurves$RunningSum" "t" "[I") (by decide +kernel)) (fun _ h9 => h9) rfl dX4_addItself_302 ?_
      refine lv_aload_n hx hb dX4_addItself_305 rfl (lv_at hl 0 rfl) ?_
      refine x_get (v := .ref (h + 62)) hx hb hts in_X4_addItself_X4 hown hK hM (hrn) rfl 2 (by decide) (hts (.fieldLink RX4 19 "LimbCurves$RunningSum" "x" "[I") (by decide +kernel)) (fun _ h9 => h9) rfl dX4_addItself_306 ?_
      obtain ⟨z9, y9, hrf⟩ := hg.rs.ob
      refine r_Vv (As := [.ref (h + 70), .ref (h + 70), .ref (h + 62)]) (rest := []) C hM hS (c_subtract l D kA N0 _ (h + 49) L pp (h + 70) (h + 70) (h + 62) t3 x3 (nI z9) (nI y9) hrf hg.rs.md (hg.rA 8 (by decide)) ((hg.n 8 rfl).1) ((hg.n 0 rfl).1) ((hg.n 8 rfl).2) (Nat.le_of_lt ((hg.n 0 rfl).2)) (by omega) (by omega)) (hrf) rfl gX4_addItself_X3_subtract rfl rfl rfl ⟨rfl, by decide +kernel, by decide +kernel, (by decide +kernel : (parseMethodDescriptor yX3_subtract.desc).map (fun d => d.parameters.length) = some 3)⟩ ⟨Nat.le_of_ble_eq_true rfl, Nat.le_of_ble_eq_true rfl⟩ hl.1 rfl (Nat.le_of_ble_eq_true rfl) dX4_addItself_309 ⟨Nat.le_of_ble_eq_true rfl, Nat.le_of_ble_eq_true rfl⟩ (fun M1 H locs hp hM hS => ?_)
      obtain ⟨q1, q3⟩ := hp
      obtain ⟨t4, et4⟩ : ∃ q, q = (t3 + (pp - x3)) % pp := ⟨_, rfl⟩
      rw [← et4] at q1
      have hg : RG kA _ M1 h L pp [some x3, some y, some z2, none, none, none, some r3, some s4, some t4] 0 := hg.st 8 (by decide) q1 (by rw [et4]; exact Nat.mod_lt _ hpp) (hg.wk.kept (q3 _ (by omega))) (hg.sp.kept (q3 _ (by omega))) (fun b h1 _ _ => q3 b h1)
      have hrn := hg.rn
      refine lv_aload_n hx hb dX4_addItself_312 rfl (lv_at hl 0 rfl) ?_
      refine x_get (v := .ref (h + 49)) hx hb hts in_X4_addItself_X4 hown hK hM (hrn) rfl 0 (by decide) (hts (.fieldLink RX4 9 "LimbCurves$RunningSum" "field" "LLimbCurves$Residues;") (by decide +kernel)) (fun _ h9 => h9) rfl dX4_addItself_313 ?_
      refine lv_aload_n hx hb dX4_addItself_316 rfl (lv_at hl 0 rfl) ?_
      refine x_get (v := .ref (h + 70)) hx hb hts in_X4_addItself_X4 hown hK hM (hrn) rfl 11 (by decide) (hts (.fieldLink RX4 47 "LimbCurves$RunningSum" "t" "[I") (by decide +kernel)) (fun _ h9 => h9) rfl dX4_addItself_317 ?_
      refine lv_aload_n hx hb dX4_addItself_320 rfl (lv_at hl 0 rfl) ?_
      refine x_get (v := .ref (h + 70)) hx hb hts in_X4_addItself_X4 hown hK hM (hrn) rfl 11 (by decide) (hts (.fieldLink RX4 47 "LimbCurves$RunningSum" "t" "[I") (by decide +kernel)) (fun _ h9 => h9) rfl dX4_addItself_321 ?_
      refine lv_aload_n hx hb dX4_addItself_324 rfl (lv_at hl 0 rfl) ?_
      refine x_get (v := .ref (h + 68)) hx hb hts in_X4_addItself_X4 hown hK hM (hrn) rfl 9 (by decide) (hts (.fieldLink RX4 41 "LimbCurves$RunningSum" "rise" "[I") (by decide +kernel)) (fun _ h9 => h9) rfl dX4_addItself_325 ?_
      obtain ⟨z9, y9, hrf⟩ := hg.rs.ob
      refine r_Vv (As := [.ref (h + 70), .ref (h + 70), .ref (h + 68)]) (rest := []) C hM hS (c_multiply l D kA N0 _ (h + 49) L pp (h + 70) (h + 70) (h + 68) t4 r3 hg.rs hg.wk (hg.rA 8 (by decide)) ((hg.n 8 rfl).1) ((hg.n 6 rfl).1) ((hg.n 8 rfl).2) ((hg.n 6 rfl).2) (by omega) (by omega) (by omega) (by omega) (by omega)) (hrf) rfl gX4_addItself_X3_multiply rfl rfl rfl ⟨rfl, by decide +kernel, by decide +kernel, (by decide +kernel : (parseMethodDescriptor yX3_multiply.desc).map (fun d => d.parameters.length) = some 3)⟩ ⟨Nat.le_of_ble_eq_true rfl, Nat.le_of_ble_eq_true rfl⟩ hl.1 rfl (Nat.le_of_ble_eq_true rfl) dX4_addItself_328 ⟨Nat.le_of_ble_eq_true rfl, Nat.le_of_ble_eq_true rfl⟩ (fun M1 H locs hp hM hS => ?_)
      obtain ⟨q1, q2, q3⟩ := hp
      obtain ⟨t5, et5⟩ : ∃ q, q = t4 * r3 % pp := ⟨_, rfl⟩
      rw [← et5] at q1
      have hg : RG kA _ M1 h L pp [some x3, some y, some z2, none, none, none, some r3, some s4, some t5] 0 := hg.st 8 (by decide) q1 (by rw [et5]; exact Nat.mod_lt _ hpp) q2 (hg.sp.kept (q3 _ (by omega) (by omega))) (fun b h1 h2 _ => q3 b h1 h2)
      have hrn := hg.rn
      refine lv_aload_n hx hb dX4_addItself_331 rfl (lv_at hl 0 rfl) ?_
      refine x_get (v := .ref (h + 49)) hx hb hts in_X4_addItself_X4 hown hK hM (hrn) rfl 0 (by decide) (hts (.fieldLink RX4 9 "LimbCurves$RunningSum" "field" "LLimbCurves$Residues;") (by decide +kernel)) (fun _ h9 => h9) rfl dX4_addItself_332 ?_
      refine lv_aload_n hx hb dX4_addItself_335 rfl (lv_at hl 0 rfl) ?_
      refine x_get (v := .ref (h + 69)) hx hb hts in_X4_addItself_X4 hown hK hM (hrn) rfl 10 (by decide) (hts (.fieldLink RX4 44 "LimbCurves$RunningSum" "s" "[I") (by decide +kernel)) (fun _ h9 => h9) rfl dX4_addItself_336 ?_
      refine lv_aload_n hx hb dX4_addItself_339 rfl (lv_at hl 0 rfl) ?_
      refine x_get (v := .ref (h + 69)) hx hb hts in_X4_addItself_X4 hown hK hM (hrn) rfl 10 (by decide) (hts (.fieldLink RX4 44 "LimbCurves$RunningSum" "s" "[I") (by decide +kernel)) (fun _ h9 => h9) rfl dX4_addItself_340 ?_
      refine lv_aload_n hx hb dX4_addItself_343 rfl (lv_at hl 0 rfl) ?_
      refine x_get (v := .ref (h + 69)) hx hb hts in_X4_addItself_X4 hown hK hM (hrn) rfl 10 (by decide) (hts (.fieldLink RX4 44 "LimbCurves$RunningSum" "s" "[I") (by decide +kernel)) (fun _ h9 => h9) rfl dX4_addItself_344 ?_
      obtain ⟨z9, y9, hrf⟩ := hg.rs.ob
      refine r_Vv (As := [.ref (h + 69), .ref (h + 69), .ref (h + 69)]) (rest := []) C hM hS (c_multiply l D kA N0 _ (h + 49) L pp (h + 69) (h + 69) (h + 69) s4 s4 hg.rs hg.wk (hg.rA 7 (by decide)) ((hg.n 7 rfl).1) ((hg.n 7 rfl).1) ((hg.n 7 rfl).2) ((hg.n 7 rfl).2) (by omega) (by omega) (by omega) (by omega) (by omega)) (hrf) rfl gX4_addItself_X3_multiply rfl rfl rfl ⟨rfl, by decide +kernel, by decide +kernel, (by decide +kernel : (parseMethodDescriptor yX3_multiply.desc).map (fun d => d.parameters.length) = some 3)⟩ ⟨Nat.le_of_ble_eq_true rfl, Nat.le_of_ble_eq_true rfl⟩ hl.1 rfl (Nat.le_of_ble_eq_true rfl) dX4_addItself_347 ⟨Nat.le_of_ble_eq_true rfl, Nat.le_of_ble_eq_true rfl⟩ (fun M1 H locs hp hM hS => ?_)
      obtain ⟨q1, q2, q3⟩ := hp
      obtain ⟨s5, es5⟩ : ∃ q, q = s4 * s4 % pp := ⟨_, rfl⟩
      rw [← es5] at q1
      have hg : RG kA _ M1 h L pp [some x3, some y, some z2, none, none, none, some r3, some s5, some t5] 0 := hg.st 7 (by decide) q1 (by rw [es5]; exact Nat.mod_lt _ hpp) q2 (hg.sp.kept (q3 _ (by omega) (by omega))) (fun b h1 h2 _ => q3 b h1 h2)
      have hrn := hg.rn
      refine lv_aload_n hx hb dX4_addItself_350 rfl (lv_at hl 0 rfl) ?_
      refine x_get (v := .ref (h + 49)) hx hb hts in_X4_addItself_X4 hown hK hM (hrn) rfl 0 (by decide) (hts (.fieldLink RX4 9 "LimbCurves$RunningSum" "field" "LLimbCurves$Residues;") (by decide +kernel)) (fun _ h9 => h9) rfl dX4_addItself_351 ?_
      refine lv_aload_n hx hb dX4_addItself_354 rfl (lv_at hl 0 rfl) ?_
      refine x_get (v := .ref (h + 69)) hx hb hts in_X4_addItself_X4 hown hK hM (hrn) rfl 10 (by decide) (hts (.fieldLink RX4 44 "LimbCurves$RunningSum" "s" "[I") (by decide +kernel)) (fun _ h9 => h9) rfl dX4_addItself_355 ?_
      refine lv_aload_n hx hb dX4_addItself_358 rfl (lv_at hl 0 rfl) ?_
      refine x_get (v := .ref (h + 69)) hx hb hts in_X4_addItself_X4 hown hK hM (hrn) rfl 10 (by decide) (hts (.fieldLink RX4 44 "LimbCurves$RunningSum" "s" "[I") (by decide +kernel)) (fun _ h9 => h9) rfl dX4_addItself_359 ?_
      obtain ⟨z9, y9, hrf⟩ := hg.rs.ob
      refine r_Vv (As := [.ref (h + 69), .ref (h + 69)]) (rest := []) C hM hS (c_twice l D kA N0 _ (h + 49) L pp (h + 69) (h + 69) s5 hg.rs (hg.rA 7 (by decide)) ((hg.n 7 rfl).1) ((hg.n 7 rfl).2) (by omega) (by omega)) (hrf) rfl gX4_addItself_X3_twice rfl rfl rfl ⟨rfl, by decide +kernel, by decide +kernel, (by decide +kernel : (parseMethodDescriptor yX3_twice.desc).map (fun d => d.parameters.length) = some 2)⟩ ⟨Nat.le_of_ble_eq_true rfl, Nat.le_of_ble_eq_true rfl⟩ hl.1 rfl (Nat.le_of_ble_eq_true rfl) dX4_addItself_362 ⟨Nat.le_of_ble_eq_true rfl, Nat.le_of_ble_eq_true rfl⟩ (fun M1 H locs hp hM hS => ?_)
      obtain ⟨q1, q3⟩ := hp
      obtain ⟨s6, es6⟩ : ∃ q, q = (s5 + s5) % pp := ⟨_, rfl⟩
      rw [← es6] at q1
      have hg : RG kA _ M1 h L pp [some x3, some y, some z2, none, none, none, some r3, some s6, some t5] 0 := hg.st 7 (by decide) q1 (by rw [es6]; exact Nat.mod_lt _ hpp) (hg.wk.kept (q3 _ (by omega))) (hg.sp.kept (q3 _ (by omega))) (fun b h1 _ _ => q3 b h1)
      have hrn := hg.rn
      refine lv_aload_n hx hb dX4_addItself_365 rfl (lv_at hl 0 rfl) ?_
      refine x_get (v := .ref (h + 49)) hx hb hts in_X4_addItself_X4 hown hK hM (hrn) rfl 0 (by decide) (hts (.fieldLink RX4 9 "LimbCurves$RunningSum" "field" "LLimbCurves$Residues;") (by decide +kernel)) (fun _ h9 => h9) rfl dX4_addItself_366 ?_
      refine lv_aload_n hx hb dX4_addItself_369 rfl (lv_at hl 0 rfl) ?_
      refine x_get (v := .ref (h + 69)) hx hb hts in_X4_addItself_X4 hown hK hM (hrn) rfl 10 (by decide) (hts (.fieldLink RX4 44 "LimbCurves$RunningSum" "s" "[I") (by decide +kernel)) (fun _ h9 => h9) rfl dX4_addItself_370 ?_
      refine lv_aload_n hx hb dX4_addItself_373 rfl (lv_at hl 0 rfl) ?_
      refine x_get (v := .ref (h + 69)) hx hb hts in_X4_addItself_X4 hown hK hM (hrn) rfl 10 (by decide) (hts (.fieldLink RX4 44 "LimbCurves$RunningSum" "s" "[I") (by decide +kernel)) (fun _ h9 => h9) rfl dX4_addItself_374 ?_
      obtain ⟨z9, y9, hrf⟩ := hg.rs.ob
      refine r_Vv (As := [.ref (h + 69), .ref (h + 69)]) (rest := []) C hM hS (c_twice l D kA N0 _ (h + 49) L pp (h + 69) (h + 69) s6 hg.rs (hg.rA 7 (by decide)) ((hg.n 7 rfl).1) ((hg.n 7 rfl).2) (by omega) (by omega)) (hrf) rfl gX4_addItself_X3_twice rfl rfl rfl ⟨rfl, by decide +kernel, by decide +kernel, (by decide +kernel : (parseMethodDescriptor yX3_twice.desc).map (fun d => d.parameters.length) = some 2)⟩ ⟨Nat.le_of_ble_eq_true rfl, Nat.le_of_ble_eq_true rfl⟩ hl.1 rfl (Nat.le_of_ble_eq_true rfl) dX4_addItself_377 ⟨Nat.le_of_ble_eq_true rfl, Nat.le_of_ble_eq_true rfl⟩ (fun M1 H locs hp hM hS => ?_)
      obtain ⟨q1, q3⟩ := hp
      obtain ⟨s7, es7⟩ : ∃ q, q = (s6 + s6) % pp := ⟨_, rfl⟩
      rw [← es7] at q1
      have hg : RG kA _ M1 h L pp [some x3, some y, some z2, none, none, none, some r3, some s7, some t5] 0 := hg.st 7 (by decide) q1 (by rw [es7]; exact Nat.mod_lt _ hpp) (hg.wk.kept (q3 _ (by omega))) (hg.sp.kept (q3 _ (by omega))) (fun b h1 _ _ => q3 b h1)
      have hrn := hg.rn
      refine lv_aload_n hx hb dX4_addItself_380 rfl (lv_at hl 0 rfl) ?_
      refine x_get (v := .ref (h + 49)) hx hb hts in_X4_addItself_X4 hown hK hM (hrn) rfl 0 (by decide) (hts (.fieldLink RX4 9 "LimbCurves$RunningSum" "field" "LLimbCurves$Residues;") (by decide +kernel)) (fun _ h9 => h9) rfl dX4_addItself_381 ?_
      refine lv_aload_n hx hb dX4_addItself_384 rfl (lv_at hl 0 rfl) ?_
      refine x_get (v := .ref (h + 69)) hx hb hts in_X4_addItself_X4 hown hK hM (hrn) rfl 10 (by decide) (hts (.fieldLink RX4 44 "LimbCurves$RunningSum" "s" "[I") (by decide +kernel)) (fun _ h9 => h9) rfl dX4_addItself_385 ?_
      refine lv_aload_n hx hb dX4_addItself_388 rfl (lv_at hl 0 rfl) ?_
      refine x_get (v := .ref (h + 69)) hx hb hts in_X4_addItself_X4 hown hK hM (hrn) rfl 10 (by decide) (hts (.fieldLink RX4 44 "LimbCurves$RunningSum" "s" "[I") (by decide +kernel)) (fun _ h9 => h9) rfl dX4_addItself_389 ?_
      obtain ⟨z9, y9, hrf⟩ := hg.rs.ob
      refine r_Vv (As := [.ref (h + 69), .ref (h + 69)]) (rest := []) C hM hS (c_twice l D kA N0 _ (h + 49) L pp (h + 69) (h + 69) s7 hg.rs (hg.rA 7 (by decide)) ((hg.n 7 rfl).1) ((hg.n 7 rfl).2) (by omega) (by omega)) (hrf) rfl gX4_addItself_X3_twice rfl rfl rfl ⟨rfl, by decide +kernel, by decide +kernel, (by decide +kernel : (parseMethodDescriptor yX3_twice.desc).map (fun d => d.parameters.length) = some 2)⟩ ⟨Nat.le_of_ble_eq_true rfl, Nat.le_of_ble_eq_true rfl⟩ hl.1 rfl (Nat.le_of_ble_eq_true rfl) dX4_addItself_392 ⟨Nat.le_of_ble_eq_true rfl, Nat.le_of_ble_eq_true rfl⟩ (fun M1 H locs hp hM hS => ?_)
      obtain ⟨q1, q3⟩ := hp
      obtain ⟨s8, es8⟩ : ∃ q, q = (s7 + s7) % pp := ⟨_, rfl⟩
      rw [← es8] at q1
      have hg : RG kA _ M1 h L pp [some x3, some y, some z2, none, none, none, some r3, some s8, some t5] 0 := hg.st 7 (by decide) q1 (by rw [es8]; exact Nat.mod_lt _ hpp) (hg.wk.kept (q3 _ (by omega))) (hg.sp.kept (q3 _ (by omega))) (fun b h1 _ _ => q3 b h1)
      have hrn := hg.rn
      refine lv_aload_n hx hb dX4_addItself_395 rfl (lv_at hl 0 rfl) ?_
      refine x_get (v := .ref (h + 49)) hx hb hts in_X4_addItself_X4 hown hK hM (hrn) rfl 0 (by decide) (hts (.fieldLink RX4 9 "LimbCurves$RunningSum" "field" "LLimbCurves$Residues;") (by decide +kernel)) (fun _ h9 => h9) rfl dX4_addItself_396 ?_
      refine lv_aload_n hx hb dX4_addItself_399 rfl (lv_at hl 0 rfl) ?_
      refine x_get (v := .ref (h + 63)) hx hb hts in_X4_addItself_X4 hown hK hM (hrn) rfl 3 (by decide) (hts (.fieldLink RX4 22 "LimbCurves$RunningSum" "y" "[I") (by decide +kernel)) (fun _ h9 => h9) rfl dX4_addItself_400 ?_
      refine lv_aload_n hx hb dX4_addItself_403 rfl (lv_at hl 0 rfl) ?_
      refine x_get (v := .ref (h + 70)) hx hb hts in_X4_addItself_X4 hown hK hM (hrn) rfl 11 (by decide) (hts (.fieldLink RX4 47 "LimbCurves$RunningSum" "t" "[I") (by decide +kernel)) (fun _ h9 => h9) rfl dX4_addItself_404 ?_
      refine lv_aload_n hx hb dX4_addItself_407 rfl (lv_at hl 0 rfl) ?_
      refine x_get (v := .ref (h + 69)) hx hb hts in_X4_addItself_X4 hown hK hM (hrn) rfl 10 (by decide) (hts (.fieldLink RX4 44 "LimbCurves$RunningSum" "s" "[I") (by decide +kernel)) (fun _ h9 => h9) rfl dX4_addItself_408 ?_
      obtain ⟨z9, y9, hrf⟩ := hg.rs.ob
      refine r_Vv (As := [.ref (h + 63), .ref (h + 70), .ref (h + 69)]) (rest := []) C hM hS (c_subtract l D kA N0 _ (h + 49) L pp (h + 63) (h + 70) (h + 69) t5 s8 (nI z9) (nI y9) hrf hg.rs.md (hg.rA 1 (by decide)) ((hg.n 8 rfl).1) ((hg.n 7 rfl).1) ((hg.n 8 rfl).2) (Nat.le_of_lt ((hg.n 7 rfl).2)) (by omega) (by omega)) (hrf) rfl gX4_addItself_X3_subtract rfl rfl rfl ⟨rfl, by decide +kernel, by decide +kernel, (by decide +kernel : (parseMethodDescriptor yX3_subtract.desc).map (fun d => d.parameters.length) = some 3)⟩ ⟨Nat.le_of_ble_eq_true rfl, Nat.le_of_ble_eq_true rfl⟩ hl.1 rfl (Nat.le_of_ble_eq_true rfl) dX4_addItself_411 ⟨Nat.le_of_ble_eq_true rfl, Nat.le_of_ble_eq_true rfl⟩ (fun M1 H locs hp hM hS => ?_)
      obtain ⟨q1, q3⟩ := hp
      obtain ⟨y2, ey2⟩ : ∃ q, q = (t5 + (pp - s8)) % pp := ⟨_, rfl⟩
      rw [← ey2] at q1
      have hg : RG kA _ M1 h L pp [some x3, some y2, some z2, none, none, none, some r3, some s8, some t5] 0 := hg.st 1 (by decide) q1 (by rw [ey2]; exact Nat.mod_lt _ hpp) (hg.wk.kept (q3 _ (by omega))) (hg.sp.kept (q3 _ (by omega))) (fun b h1 _ _ => q3 b h1)
      have hrn := hg.rn
      exact r_vret C hM hS (Or.inr ⟨hy0, x3, y2, z2, hg.less (gs_less (by simp [gsl])), s1, s2, s3, r1, r2, r3, z1, s4, t1, t2, t3, x1, x2, t4, t5, s5, s6, s7, s8, es1, es2, es3, er1, er2, er3, ez1, ez2, es4, et1, et2, et3, ex1, ex2, ex3, et4, et5, es5, es6, es7, es8, ey2⟩) dX4_addItself_414
    · have hy0 : y = 0 := by
        rcases hq with ⟨h1, h2⟩ | ⟨h1, h2⟩
        · exact h2
        · exact absurd h1 hz
      refine lv_aload_n hx hb dX4_addItself_18 rfl (lv_at hl 0 rfl) ?_
      refine lv_iconst (v := nI 1) hx hb dX4_addItself_19 (by decide) ?_
      refine x_put (v := .int (nI 1)) (ty := .boolean) hx hb hts in_X4_addItself_X4 tyX4 tyX4_ok nmX4 hown hK hM hS (hrn) rfl 5 (by decide) (hts (.fieldLink RX4 28 "LimbCurves$RunningSum" "identity" "Z") (by decide +kernel)) (fun _ h9 => h9) rfl (by decide +kernel) rfl rfl (Nat.le_of_ble_eq_true rfl) dX4_addItself_20 (fun H locs hM hS => ?_)
      have hM : xW D vwCl N0 (xset M (h + 61) (oRn h (nI 1))) H := hM
      exact r_vret C hM hS (Or.inl ⟨hy0, hg.mark 1⟩) dX4_addItself_23
  · omega
set_option maxRecDepth 100000 in
theorem c_addAlongChord (l : Launch) (D : va_G) (kA : Nat → ClassId) (N0 : Nat) (M0 M : xM) (h L pp x y z rn rs : Nat) (hg : RG kA M0 M h L pp [some x, some y, some z, none, none, some rn, some rs, none, none] 0) (hpp : 0 < pp) (hL : L < 40) : cV l yX4_addAlongChord wsX4_addAlongChord (xR 3) [.ref (h + 61)] D kA N0 M (fun M1 => ∃ x' y' z', RG kA M0 M1 h L pp [some x', some y', some z', none, none, none, none, none, none] 0 ∧ chdEq pp x y z rn rs x' y' z') := by
  have hrn := hg.rn
  refine r_met (cc := cX4_addAlongChord) (maxL := 1) (ret := none) (by decide) rfl (Nat.le_of_ble_eq_true rfl) ?_
  intro p e s m below meth c ls C hM hnm hl
  obtain ⟨hx, hb, hml, hown, hts, hr, hlocks, hK, hN⟩ := _root_.id C
  have hS : va_S (xA N0) s.heap s.heap [] := va_S.rf
  have hl : lv_has ls 1 [(0, .ref (h + 61))] := hl
  refine lv_aload_n hx hb dX4_addAlongChord_0 rfl (lv_at hl 0 rfl) ?_
  refine x_get (v := .ref (h + 49)) hx hb hts in_X4_addAlongChord_X4 hown hK hM (hrn) rfl 0 (by decide) (hts (.fieldLink RX4 9 "LimbCurves$RunningSum" "field" "LLimbCurves$Residues;") (by decide +kernel)) (fun _ h9 => h9) rfl dX4_addAlongChord_1 ?_
  refine lv_aload_n hx hb dX4_addAlongChord_4 rfl (lv_at hl 0 rfl) ?_
  refine x_get (v := .ref (h + 64)) hx hb hts in_X4_addAlongChord_X4 hown hK hM (hrn) rfl 4 (by decide) (hts (.fieldLink RX4 25 "LimbCurves$RunningSum" "z" "[I") (by decide +kernel)) (fun _ h9 => h9) rfl dX4_addAlongChord_5 ?_
  refine lv_aload_n hx hb dX4_addAlongChord_8 rfl (lv_at hl 0 rfl) ?_
  refine x_get (v := .ref (h + 64)) hx hb hts in_X4_addAlongChord_X4 hown hK hM (hrn) rfl 4 (by decide) (hts (.fieldLink RX4 25 "LimbCurves$RunningSum" "z" "[I") (by decide +kernel)) (fun _ h9 => h9) rfl dX4_addAlongChord_9 ?_
  refine lv_aload_n hx hb dX4_addAlongChord_12 rfl (lv_at hl 0 rfl) ?_
  refine x_get (v := .ref (h + 67)) hx hb hts in_X4_addAlongChord_X4 hown hK hM (hrn) rfl 8 (by decide) (hts (.fieldLink RX4 38 "LimbCurves$RunningSum" "run" "[I") (by decide +kernel)) (fun _ h9 => h9) rfl dX4_addAlongChord_13 ?_
  obtain ⟨z9, y9, hrf⟩ := hg.rs.ob
  refine r_Vv (As := [.ref (h + 64), .ref (h + 64), .ref (h + 67)]) (rest := []) C hM hS (c_multiply l D kA N0 _ (h + 49) L pp (h + 64) (h + 64) (h + 67) z rn hg.rs hg.wk (hg.rA 2 (by decide)) ((hg.n 2 rfl).1) ((hg.n 5 rfl).1) ((hg.n 2 rfl).2) ((hg.n 5 rfl).2) (by omega) (by omega) (by omega) (by omega) (by omega)) (hrf) rfl gX4_addAlongChord_X3_multiply rfl rfl rfl ⟨rfl, by decide +kernel, by decide +kernel, (by decide +kernel : (parseMethodDescriptor yX3_multiply.desc).map (fun d => d.parameters.length) = some 3)⟩ ⟨Nat.le_of_ble_eq_true rfl, Nat.le_of_ble_eq_true rfl⟩ hl.1 rfl (Nat.le_of_ble_eq_true rfl) dX4_addAlongChord_16 ⟨Nat.le_of_ble_eq_true rfl, Nat.le_of_ble_eq_true rfl⟩ (fun M1 H locs hp hM hS => ?_)
  obtain ⟨q1, q2, q3⟩ := hp
  obtain ⟨z2, ez2⟩ : ∃ q, q = z * rn % pp := ⟨_, rfl⟩
  rw [← ez2] at q1
  have hg : RG kA _ M1 h L pp [some x, some y, some z2, none, none, some rn, some rs, none, none] 0 := hg.st 2 (by decide) q1 (by rw [ez2]; exact Nat.mod_lt _ hpp) q2 (hg.sp.kept (q3 _ (by omega) (by omega))) (fun b h1 h2 _ => q3 b h1 h2)
  have hrn := hg.rn
  refine lv_aload_n hx hb dX4_addAlongChord_19 rfl (lv_at hl 0 rfl) ?_
  refine x_get (v := .ref (h + 49)) hx hb hts in_X4_addAlongChord_X4 hown hK hM (hrn) rfl 0 (by decide) (hts (.fieldLink RX4 9 "LimbCurves$RunningSum" "field" "LLimbCurves$Residues;") (by decide +kernel)) (fun _ h9 => h9) rfl dX4_addAlongChord_20 ?_
  refine lv_aload_n hx hb dX4_addAlongChord_23 rfl (lv_at hl 0 rfl) ?_
  refine x_get (v := .ref (h + 69)) hx hb hts in_X4_addAlongChord_X4 hown hK hM (hrn) rfl 10 (by decide) (hts (.fieldLink RX4 44 "LimbCurves$RunningSum" "s" "[I") (by decide +kernel)) (fun _ h9 => h9) rfl dX4_addAlongChord_24 ?_
  refine lv_aload_n hx hb dX4_addAlongChord_27 rfl (lv_at hl 0 rfl) ?_
  refine x_get (v := .ref (h + 67)) hx hb hts in_X4_addAlongChord_X4 hown hK hM (hrn) rfl 8 (by decide) (hts (.fieldLink RX4 38 "LimbCurves$RunningSum" "run" "[I") (by decide +kernel)) (fun _ h9 => h9) rfl dX4_addAlongChord_28 ?_
  refine lv_aload_n hx hb dX4_addAlongChord_31 rfl (lv_at hl 0 rfl) ?_
  refine x_get (v := .ref (h + 67)) hx hb hts in_X4_addAlongChord_X4 hown hK hM (hrn) rfl 8 (by decide) (hts (.fieldLink RX4 38 "LimbCurves$RunningSum" "run" "[I") (by decide +kernel)) (fun _ h9 => h9) rfl dX4_addAlongChord_32 ?_
  obtain ⟨z9, y9, hrf⟩ := hg.rs.ob
  refine r_Vv (As := [.ref (h + 69), .ref (h + 67), .ref (h + 67)]) (rest := []) C hM hS (c_multiply l D kA N0 _ (h + 49) L pp (h + 69) (h + 67) (h + 67) rn rn hg.rs hg.wk (hg.rA 7 (by decide)) ((hg.n 5 rfl).1) ((hg.n 5 rfl).1) ((hg.n 5 rfl).2) ((hg.n 5 rfl).2) (by omega) (by omega) (by omega) (by omega) (by omega)) (hrf) rfl gX4_addAlongChord_X3_multiply rfl rfl rfl ⟨rfl, by decide +kernel, by decide +kernel, (by decide +kernel : (parseMethodDescriptor yX3_multiply.desc).map (fun d => d.parameters.length) = some 3)⟩ ⟨Nat.le_of_ble_eq_true rfl, Nat.le_of_ble_eq_true rfl⟩ hl.1 rfl (Nat.le_of_ble_eq_true rfl) dX4_addAlongChord_35 ⟨Nat.le_of_ble_eq_true rfl, Nat.le_of_ble_eq_true rfl⟩ (fun M1 H locs hp hM hS => ?_)
  obtain ⟨q1, q2, q3⟩ := hp
  obtain ⟨s1, es1⟩ : ∃ q, q = rn * rn % pp := ⟨_, rfl⟩
  rw [← es1] at q1
  have hg : RG kA _ M1 h L pp [some x, some y, some z2, none, none, some rn, some rs, some s1, none] 0 := hg.st 7 (by decide) q1 (by rw [es1]; exact Nat.mod_lt _ hpp) q2 (hg.sp.kept (q3 _ (by omega) (by omega))) (fun b h1 h2 _ => q3 b h1 h2)
  have hrn := hg.rn
  refine lv_aload_n hx hb dX4_addAlongChord_38 rfl (lv_at hl 0 rfl) ?_
  refine x_get (v := .ref (h + 49)) hx hb hts in_X4_addAlongChord_X4 hown hK hM (hrn) rfl 0 (by decide) (hts (.fieldLink RX4 9 "LimbCurves$RunningSum" "field" "LLimbCurves$Residues;") (by decide +kernel)) (fun _ h9 => h9) rfl dX4_addAlongChord_39 ?_
  refine lv_aload_n hx hb dX4_addAlongChord_42 rfl (lv_at hl 0 rfl) ?_
  refine x_get (v := .ref (h + 70)) hx hb hts in_X4_addAlongChord_X4 hown hK hM (hrn) rfl 11 (by decide) (hts (.fieldLink RX4 47 "LimbCurves$RunningSum" "t" "[I") (by decide +kernel)) (fun _ h9 => h9) rfl dX4_addAlongChord_43 ?_
  refine lv_aload_n hx hb dX4_addAlongChord_46 rfl (lv_at hl 0 rfl) ?_
  refine x_get (v := .ref (h + 62)) hx hb hts in_X4_addAlongChord_X4 hown hK hM (hrn) rfl 2 (by decide) (hts (.fieldLink RX4 19 "LimbCurves$RunningSum" "x" "[I") (by decide +kernel)) (fun _ h9 => h9) rfl dX4_addAlongChord_47 ?_
  refine lv_aload_n hx hb dX4_addAlongChord_50 rfl (lv_at hl 0 rfl) ?_
  refine x_get (v := .ref (h + 69)) hx hb hts in_X4_addAlongChord_X4 hown hK hM (hrn) rfl 10 (by decide) (hts (.fieldLink RX4 44 "LimbCurves$RunningSum" "s" "[I") (by decide +kernel)) (fun _ h9 => h9) rfl dX4_addAlongChord_51 ?_
  obtain ⟨z9, y9, hrf⟩ := hg.rs.ob
  refine r_Vv (As := [.ref (h + 70), .ref (h + 62), .ref (h + 69)]) (rest := []) C hM hS (c_multiply l D kA N0 _ (h + 49) L pp (h + 70) (h + 62) (h + 69) x s1 hg.rs hg.wk (hg.rA 8 (by decide)) ((hg.n 0 rfl).1) ((hg.n 7 rfl).1) ((hg.n 0 rfl).2) ((hg.n 7 rfl).2) (by omega) (by omega) (by omega) (by omega) (by omega)) (hrf) rfl gX4_addAlongChord_X3_multiply rfl rfl rfl ⟨rfl, by decide +kernel, by decide +kernel, (by decide +kernel : (parseMethodDescriptor yX3_multiply.desc).map (fun d => d.parameters.length) = some 3)⟩ ⟨Nat.le_of_ble_eq_true rfl, Nat.le_of_ble_eq_true rfl⟩ hl.1 rfl (Nat.le_of_ble_eq_true rfl) dX4_addAlongChord_54 ⟨Nat.le_of_ble_eq_true rfl, Nat.le_of_ble_eq_true rfl⟩ (fun M1 H locs hp hM hS => ?_)
  obtain ⟨q1, q2, q3⟩ := hp
  obtain ⟨t1, et1⟩ : ∃ q, q = x * s1 % pp := ⟨_, rfl⟩
  rw [← et1] at q1
  have hg : RG kA _ M1 h L pp [some x, some y, some z2, none, none, some rn, some rs, some s1, some t1] 0 := hg.st 8 (by decide) q1 (by rw [et1]; exact Nat.mod_lt _ hpp) q2 (hg.sp.kept (q3 _ (by omega) (by omega))) (fun b h1 h2 _ => q3 b h1 h2)
  have hrn := hg.rn
  refine lv_aload_n hx hb dX4_addAlongChord_57 rfl (lv_at hl 0 rfl) ?_
  refine x_get (v := .ref (h + 49)) hx hb hts in_X4_addAlongChord_X4 hown hK hM (hrn) rfl 0 (by decide) (hts (.fieldLink RX4 9 "LimbCurves$RunningSum" "field" "LLimbCurves$Residues;") (by decide +kernel)) (fun _ h9 => h9) rfl dX4_addAlongChord_58 ?_
  refine lv_aload_n hx hb dX4_addAlongChord_61 rfl (lv_at hl 0 rfl) ?_
  refine x_get (v := .ref (h + 69)) hx hb hts in_X4_addAlongChord_X4 hown hK hM (hrn) rfl 10 (by decide) (hts (.fieldLink RX4 44 "LimbCurves$RunningSum" "s" "[I") (by decide +kernel)) (fun _ h9 => h9) rfl dX4_addAlongChord_62 ?_
  refine lv_aload_n hx hb dX4_addAlongChord_65 rfl (lv_at hl 0 rfl) ?_
  refine x_get (v := .ref (h + 69)) hx hb hts in_X4_addAlongChord_X4 hown hK hM (hrn) rfl 10 (by decide) (hts (.fieldLink RX4 44 "LimbCurves$RunningSum" "s" "[I") (by decide +kernel)) (fun _ h9 => h9) rfl dX4_addAlongChord_66 ?_
  refine lv_aload_n hx hb dX4_addAlongChord_69 rfl (lv_at hl 0 rfl) ?_
  refine x_get (v := .ref (h + 67)) hx hb hts in_X4_addAlongChord_X4 hown hK hM (hrn) rfl 8 (by decide) (hts (.fieldLink RX4 38 "LimbCurves$RunningSum" "run" "[I") (by decide +kernel)) (fun _ h9 => h9) rfl dX4_addAlongChord_70 ?_
  obtain ⟨z9, y9, hrf⟩ := hg.rs.ob
  refine r_Vv (As := [.ref (h + 69), .ref (h + 69), .ref (h + 67)]) (rest := []) C hM hS (c_multiply l D kA N0 _ (h + 49) L pp (h + 69) (h + 69) (h + 67) s1 rn hg.rs hg.wk (hg.rA 7 (by decide)) ((hg.n 7 rfl).1) ((hg.n 5 rfl).1) ((hg.n 7 rfl).2) ((hg.n 5 rfl).2) (by omega) (by omega) (by omega) (by omega) (by omega)) (hrf) rfl gX4_addAlongChord_X3_multiply rfl rfl rfl ⟨rfl, by decide +kernel, by decide +kernel, (by decide +kernel : (parseMethodDescriptor yX3_multiply.desc).map (fun d => d.parameters.length) = some 3)⟩ ⟨Nat.le_of_ble_eq_true rfl, Nat.le_of_ble_eq_true rfl⟩ hl.1 rfl (Nat.le_of_ble_eq_true rfl) dX4_addAlongChord_73 ⟨Nat.le_of_ble_eq_true rfl, Nat.le_of_ble_eq_true rfl⟩ (fun M1 H locs hp hM hS => ?_)
  obtain ⟨q1, q2, q3⟩ := hp
  obtain ⟨s2, es2⟩ : ∃ q, q = s1 * rn % pp := ⟨_, rfl⟩
  rw [← es2] at q1
  have hg : RG kA _ M1 h L pp [some x, some y, some z2, none, none, some rn, some rs, some s2, some t1] 0 := hg.st 7 (by decide) q1 (by rw [es2]; exact Nat.mod_lt _ hpp) q2 (hg.sp.kept (q3 _ (by omega) (by omega))) (fun b h1 h2 _ => q3 b h1 h2)
  have hrn := hg.rn
  refine lv_aload_n hx hb dX4_addAlongChord_76 rfl (lv_at hl 0 rfl) ?_
  refine x_get (v := .ref (h + 49)) hx hb hts in_X4_addAlongChord_X4 hown hK hM (hrn) rfl 0 (by decide) (hts (.fieldLink RX4 9 "LimbCurves$RunningSum" "field" "LLimbCurves$Residues;") (by decide +kernel)) (fun _ h9 => h9) rfl dX4_addAlongChord_77 ?_
  refine lv_aload_n hx hb dX4_addAlongChord_80 rfl (lv_at hl 0 rfl) ?_
  refine x_get (v := .ref (h + 62)) hx hb hts in_X4_addAlongChord_X4 hown hK hM (hrn) rfl 2 (by decide) (hts (.fieldLink RX4 19 "LimbCurves$RunningSum" "x" "[I") (by decide +kernel)) (fun _ h9 => h9) rfl dX4_addAlongChord_81 ?_
  refine lv_aload_n hx hb dX4_addAlongChord_84 rfl (lv_at hl 0 rfl) ?_
  refine x_get (v := .ref (h + 68)) hx hb hts in_X4_addAlongChord_X4 hown hK hM (hrn) rfl 9 (by decide) (hts (.fieldLink RX4 41 "LimbCurves$RunningSum" "rise" "[I") (by decide +kernel)) (fun _ h9 => h9) rfl dX4_addAlongChord_85 ?_
  refine lv_aload_n hx hb dX4_addAlongChord_88 rfl (lv_at hl 0 rfl) ?_
  refine x_get (v := .ref (h + 68)) hx hb hts in_X4_addAlongChord_X4 hown hK hM (hrn) rfl 9 (by decide) (hts (.fieldLink RX4 41 "LimbCurves$RunningSum" "rise" "[I") (by decide +kernel)) (fun _ h9 => h9) rfl dX4_addAlongChord_89 ?_
  obtain ⟨z9, y9, hrf⟩ := hg.rs.ob
  refine r_Vv (As := [.ref (h + 62), .ref (h + 68), .ref (h + 68)]) (rest := []) C hM hS (c_multiply l D kA N0 _ (h + 49) L pp (h + 62) (h + 68) (h + 68) rs rs hg.rs hg.wk (hg.rA 0 (by decide)) ((hg.n 6 rfl).1) ((hg.n 6 rfl).1) ((hg.n 6 rfl).2) ((hg.n 6 rfl).2) (by omega) (by omega) (by omega) (by omega) (by omega)) (hrf) rfl gX4_addAlongChord_X3_multiply rfl rfl rfl ⟨rfl, by decide +kernel, by decide +kernel, (by decide +kernel : (parseMethodDescriptor yX3_multiply.desc).map (fun d => d.parameters.length) = some 3)⟩ ⟨Nat.le_of_ble_eq_true rfl, Nat.le_of_ble_eq_true rfl⟩ hl.1 rfl (Nat.le_of_ble_eq_true rfl) dX4_addAlongChord_92 ⟨Nat.le_of_ble_eq_true rfl, Nat.le_of_ble_eq_true rfl⟩ (fun M1 H locs hp hM hS => ?_)
  obtain ⟨q1, q2, q3⟩ := hp
  obtain ⟨x1, ex1⟩ : ∃ q, q = rs * rs % pp := ⟨_, rfl⟩
  rw [← ex1] at q1
  have hg : RG kA _ M1 h L pp [some x1, some y, some z2, none, none, some rn, some rs, some s2, some t1] 0 := hg.st 0 (by decide) q1 (by rw [ex1]; exact Nat.mod_lt _ hpp) q2 (hg.sp.kept (q3 _ (by omega) (by omega))) (fun b h1 h2 _ => q3 b h1 h2)
  have hrn := hg.rn
  refine lv_aload_n hx hb dX4_addAlongChord_95 rfl (lv_at hl 0 rfl) ?_
  refine x_get (v := .ref (h + 49)) hx hb hts in_X4_addAlongChord_X4 hown hK hM (hrn) rfl 0 (by decide) (hts (.fieldLink RX4 9 "LimbCurves$RunningSum" "field" "LLimbCurves$Residues;") (by decide +kernel)) (fun _ h9 => h9) rfl dX4_addAlongChord_96 ?_
  refine lv_aload_n hx hb dX4_addAlongChord_99 rfl (lv_at hl 0 rfl) ?_
  refine x_get (v := .ref (h + 62)) hx hb hts in_X4_addAlongChord_X4 hown hK hM (hrn) rfl 2 (by decide) (hts (.fieldLink RX4 19 "LimbCurves$RunningSum" "x" "[I") (by decide +kernel)) (fun _ h9 => h9) rfl dX4_addAlongChord_100 ?_
  refine lv_aload_n hx hb dX4_addAlongChord_103 rfl (lv_at hl 0 rfl) ?_
  refine x_get (v := .ref (h + 62)) hx hb hts in_X4_addAlongChord_X4 hown hK hM (hrn) rfl 2 (by decide) (hts (.fieldLink RX4 19 "LimbCurves$RunningSum" "x" "[I") (by decide +kernel)) (fun _ h9 => h9) rfl dX4_addAlongChord_104 ?_
  refine lv_aload_n hx hb dX4_addAlongChord_107 rfl (lv_at hl 0 rfl) ?_
  refine x_get (v := .ref (h + 69)) hx hb hts in_X4_addAlongChord_X4 hown hK hM (hrn) rfl 10 (by decide) (hts (.fieldLink RX4 44 "LimbCurves$RunningSum" "s" "[I") (by decide +kernel)) (fun _ h9 => h9) rfl dX4_addAlongChord_108 ?_
  obtain ⟨z9, y9, hrf⟩ := hg.rs.ob
  refine r_Vv (As := [.ref (h + 62), .ref (h + 62), .ref (h + 69)]) (rest := []) C hM hS (c_subtract l D kA N0 _ (h + 49) L pp (h + 62) (h + 62) (h + 69) x1 s2 (nI z9) (nI y9) hrf hg.rs.md (hg.rA 0 (by decide)) ((hg.n 0 rfl).1) ((hg.n 7 rfl).1) ((hg.n 0 rfl).2) (Nat.le_of_lt ((hg.n 7 rfl).2)) (by omega) (by omega)) (hrf) rfl gX4_addAlongChord_X3_subtract rfl rfl rfl ⟨rfl, by decide +kernel, by decide +kernel, (by decide +kernel : (parseMethodDescriptor yX3_subtract.desc).map (fun d => d.parameters.length) = some 3)⟩ ⟨Nat.le_of_ble_eq_true rfl, Nat.le_of_ble_eq_true rfl⟩ hl.1 rfl (Nat.le_of_ble_eq_true rfl) dX4_addAlongChord_111 ⟨Nat.le_of_ble_eq_true rfl, Nat.le_of_ble_eq_true rfl⟩ (fun M1 H locs hp hM hS => ?_)
  obtain ⟨q1, q3⟩ := hp
  obtain ⟨x2, ex2⟩ : ∃ q, q = (x1 + (pp - s2)) % pp := ⟨_, rfl⟩
  rw [← ex2] at q1
  have hg : RG kA _ M1 h L pp [some x2, some y, some z2, none, none, some rn, some rs, some s2, some t1] 0 := hg.st 0 (by decide) q1 (by rw [ex2]; exact Nat.mod_lt _ hpp) (hg.wk.kept (q3 _ (by omega))) (hg.sp.kept (q3 _ (by omega))) (fun b h1 _ _ => q3 b h1)
  have hrn := hg.rn
  refine lv_aload_n hx hb dX4_addAlongChord_114 rfl (lv_at hl 0 rfl) ?_
  refine x_get (v := .ref (h + 49)) hx hb hts in_X4_addAlongChord_X4 hown hK hM (hrn) rfl 0 (by decide) (hts (.fieldLink RX4 9 "LimbCurves$RunningSum" "field" "LLimbCurves$Residues;") (by decide +kernel)) (fun _ h9 => h9) rfl dX4_addAlongChord_115 ?_
  refine lv_aload_n hx hb dX4_addAlongChord_118 rfl (lv_at hl 0 rfl) ?_
  refine x_get (v := .ref (h + 62)) hx hb hts in_X4_addAlongChord_X4 hown hK hM (hrn) rfl 2 (by decide) (hts (.fieldLink RX4 19 "LimbCurves$RunningSum" "x" "[I") (by decide +kernel)) (fun _ h9 => h9) rfl dX4_addAlongChord_119 ?_
  refine lv_aload_n hx hb dX4_addAlongChord_122 rfl (lv_at hl 0 rfl) ?_
  refine x_get (v := .ref (h + 62)) hx hb hts in_X4_addAlongChord_X4 hown hK hM (hrn) rfl 2 (by decide) (hts (.fieldLink RX4 19 "LimbCurves$RunningSum" "x" "[I") (by decide +kernel)) (fun _ h9 => h9) rfl dX4_addAlongChord_123 ?_
  refine lv_aload_n hx hb dX4_addAlongChord_126 rfl (lv_at hl 0 rfl) ?_
  refine x_get (v := .ref (h + 70)) hx hb hts in_X4_addAlongChord_X4 hown hK hM (hrn) rfl 11 (by decide) (hts (.fieldLink RX4 47 "LimbCurves$RunningSum" "t" "[I") (by decide +kernel)) (fun _ h9 => h9) rfl dX4_addAlongChord_127 ?_
  obtain ⟨z9, y9, hrf⟩ := hg.rs.ob
  refine r_Vv (As := [.ref (h + 62), .ref (h + 62), .ref (h + 70)]) (rest := []) C hM hS (c_subtract l D kA N0 _ (h + 49) L pp (h + 62) (h + 62) (h + 70) x2 t1 (nI z9) (nI y9) hrf hg.rs.md (hg.rA 0 (by decide)) ((hg.n 0 rfl).1) ((hg.n 8 rfl).1) ((hg.n 0 rfl).2) (Nat.le_of_lt ((hg.n 8 rfl).2)) (by omega) (by omega)) (hrf) rfl gX4_addAlongChord_X3_subtract rfl rfl rfl ⟨rfl, by decide +kernel, by decide +kernel, (by decide +kernel : (parseMethodDescriptor yX3_subtract.desc).map (fun d => d.parameters.length) = some 3)⟩ ⟨Nat.le_of_ble_eq_true rfl, Nat.le_of_ble_eq_true rfl⟩ hl.1 rfl (Nat.le_of_ble_eq_true rfl) dX4_addAlongChord_130 ⟨Nat.le_of_ble_eq_true rfl, Nat.le_of_ble_eq_true rfl⟩ (fun M1 H locs hp hM hS => ?_)
  obtain ⟨q1, q3⟩ := hp
  obtain ⟨x3, ex3⟩ : ∃ q, q = (x2 + (pp - t1)) % pp := ⟨_, rfl⟩
  rw [← ex3] at q1
  have hg : RG kA _ M1 h L pp [some x3, some y, some z2, none, none, some rn, some rs, some s2, some t1] 0 := hg.st 0 (by decide) q1 (by rw [ex3]; exact Nat.mod_lt _ hpp) (hg.wk.kept (q3 _ (by omega))) (hg.sp.kept (q3 _ (by omega))) (fun b h1 _ _ => q3 b h1)
  have hrn := hg.rn
  refine lv_aload_n hx hb dX4_addAlongChord_133 rfl (lv_at hl 0 rfl) ?_
  refine x_get (v := .ref (h + 49)) hx hb hts in_X4_addAlongChord_X4 hown hK hM (hrn) rfl 0 (by decide) (hts (.fieldLink RX4 9 "LimbCurves$RunningSum" "field" "LLimbCurves$Residues;") (by decide +kernel)) (fun _ h9 => h9) rfl dX4_addAlongChord_134 ?_
  refine lv_aload_n hx hb dX4_addAlongChord_137 rfl (lv_at hl 0 rfl) ?_
  refine x_get (v := .ref (h + 62)) hx hb hts in_X4_addAlongChord_X4 hown hK hM (hrn) rfl 2 (by decide) (hts (.fieldLink RX4 19 "LimbCurves$RunningSum" "x" "[I") (by decide +kernel)) (fun _ h9 => h9) rfl dX4_addAlongChord_138 ?_
  refine lv_aload_n hx hb dX4_addAlongChord_141 rfl (lv_at hl 0 rfl) ?_
  refine x_get (v := .ref (h + 62)) hx hb hts in_X4_addAlongChord_X4 hown hK hM (hrn) rfl 2 (by decide) (hts (.fieldLink RX4 19 "LimbCurves$RunningSum" "x" "[I") (by decide +kernel)) (fun _ h9 => h9) rfl dX4_addAlongChord_142 ?_
  refine lv_aload_n hx hb dX4_addAlongChord_145 rfl (lv_at hl 0 rfl) ?_
  refine x_get (v := .ref (h + 70)) hx hb hts in_X4_addAlongChord_X4 hown hK hM (hrn) rfl 11 (by decide) (hts (.fieldLink RX4 47 "LimbCurves$RunningSum" "t" "[I") (by decide +kernel)) (fun _ h9 => h9) rfl dX4_addAlongChord_146 ?_
  obtain ⟨z9, y9, hrf⟩ := hg.rs.ob
  refine r_Vv (As := [.ref (h + 62), .ref (h + 62), .ref (h + 70)]) (rest := []) C hM hS (c_subtract l D kA N0 _ (h + 49) L pp (h + 62) (h + 62) (h + 70) x3 t1 (nI z9) (nI y9) hrf hg.rs.md (hg.rA 0 (by decide)) ((hg.n 0 rfl).1) ((hg.n 8 rfl).1) ((hg.n 0 rfl).2) (Nat.le_of_lt ((hg.n 8 rfl).2)) (by omega) (by omega)) (hrf) rfl gX4_addAlongChord_X3_subtract rfl rfl rfl ⟨rfl, by decide +kernel, by decide +kernel, (by decide +kernel : (parseMethodDescriptor yX3_subtract.desc).map (fun d => d.parameters.length) = some 3)⟩ ⟨Nat.le_of_ble_eq_true rfl, Nat.le_of_ble_eq_true rfl⟩ hl.1 rfl (Nat.le_of_ble_eq_true rfl) dX4_addAlongChord_149 ⟨Nat.le_of_ble_eq_true rfl, Nat.le_of_ble_eq_true rfl⟩ (fun M1 H locs hp hM hS => ?_)
  obtain ⟨q1, q3⟩ := hp
  obtain ⟨x4, ex4⟩ : ∃ q, q = (x3 + (pp - t1)) % pp := ⟨_, rfl⟩
  rw [← ex4] at q1
  have hg : RG kA _ M1 h L pp [some x4, some y, some z2, none, none, some rn, some rs, some s2, some t1] 0 := hg.st 0 (by decide) q1 (by rw [ex4]; exact Nat.mod_lt _ hpp) (hg.wk.kept (q3 _ (by omega))) (hg.sp.kept (q3 _ (by omega))) (fun b h1 _ _ => q3 b h1)
  have hrn := hg.rn
  refine lv_aload_n hx hb dX4_addAlongChord_152 rfl (lv_at hl 0 rfl) ?_
  refine x_get (v := .ref (h + 49)) hx hb hts in_X4_addAlongChord_X4 hown hK hM (hrn) rfl 0 (by decide) (hts (.fieldLink RX4 9 "LimbCurves$RunningSum" "field" "LLimbCurves$Residues;") (by decide +kernel)) (fun _ h9 => h9) rfl dX4_addAlongChord_153 ?_
  refine lv_aload_n hx hb dX4_addAlongChord_156 rfl (lv_at hl 0 rfl) ?_
  refine x_get (v := .ref (h + 70)) hx hb hts in_X4_addAlongChord_X4 hown hK hM (hrn) rfl 11 (by decide) (hts (.fieldLink RX4 47 "LimbCurves$RunningSum" "t" "[I") (by decide +kernel)) (fun _ h9 => h9) rfl dX4_addAlongChord_157 ?_
  refine lv_aload_n hx hb dX4_addAlongChord_160 rfl (lv_at hl 0 rfl) ?_
  refine x_get (v := .ref (h + 70)) hx hb hts in_X4_addAlongChord_X4 hown hK hM (hrn) rfl 11 (by decide) (hts (.fieldLink RX4 47 "LimbCurves$RunningSum" "t" "[I") (by decide +kernel)) (fun _ h9 => h9) rfl dX4_addAlongChord_161 ?_
  refine lv_aload_n hx hb dX4_addAlongChord_164 rfl (lv_at hl 0 rfl) ?_
  refine x_get (v := .ref (h + 62)) hx hb hts in_X4_addAlongChord_X4 hown hK hM (hrn) rfl 2 (by decide) (hts (.fieldLink RX4 19 "LimbCurves$RunningSum" "x" "[I") (by decide +kernel)) (fun _ h9 => h9) rfl dX4_addAlongChord_165 ?_
  obtain ⟨z9, y9, hrf⟩ := hg.rs.ob
  refine r_Vv (As := [.ref (h + 70), .ref (h + 70), .ref (h + 62)]) (rest := []) C hM hS (c_subtract l D kA N0 _ (h + 49) L pp (h + 70) (h + 70) (h + 62) t1 x4 (nI z9) (nI y9) hrf hg.rs.md (hg.rA 8 (by decide)) ((hg.n 8 rfl).1) ((hg.n 0 rfl).1) ((hg.n 8 rfl).2) (Nat.le_of_lt ((hg.n 0 rfl).2)) (by omega) (by omega)) (hrf) rfl gX4_addAlongChord_X3_subtract rfl rfl rfl ⟨rfl, by decide +kernel, by decide +kernel, (by decide +kernel : (parseMethodDescriptor yX3_subtract.desc).map (fun d => d.parameters.length) = some 3)⟩ ⟨Nat.le_of_ble_eq_true rfl, Nat.le_of_ble_eq_true rfl⟩ hl.1 rfl (Nat.le_of_ble_eq_true rfl) dX4_addAlongChord_168 ⟨Nat.le_of_ble_eq_true rfl, Nat.le_of_ble_eq_true rfl⟩ (fun M1 H locs hp hM hS => ?_)
  obtain ⟨q1, q3⟩ := hp
  obtain ⟨t2, et2⟩ : ∃ q, q = (t1 + (pp - x4)) % pp := ⟨_, rfl⟩
  rw [← et2] at q1
  have hg : RG kA _ M1 h L pp [some x4, some y, some z2, none, none, some rn, some rs, some s2, some t2] 0 := hg.st 8 (by decide) q1 (by rw [et2]; exact Nat.mod_lt _ hpp) (hg.wk.kept (q3 _ (by omega))) (hg.sp.kept (q3 _ (by omega))) (fun b h1 _ _ => q3 b h1)
  have hrn := hg.rn
  refine lv_aload_n hx hb dX4_addAlongChord_171 rfl (lv_at hl 0 rfl) ?_
  refine x_get (v := .ref (h + 49)) hx hb hts in_X4_addAlongChord_X4 hown hK hM (hrn) rfl 0 (by decide) (hts (.fieldLink RX4 9 "LimbCurves$RunningSum" "field" "LLimbCurves$Residues;") (by decide +kernel)) (fun _ h9 => h9) rfl dX4_addAlongChord_172 ?_
  refine lv_aload_n hx hb dX4_addAlongChord_175 rfl (lv_at hl 0 rfl) ?_
  refine x_get (v := .ref (h + 70)) hx hb hts in_X4_addAlongChord_X4 hown hK hM (hrn) rfl 11 (by decide) (hts (.fieldLink RX4 47 "LimbCurves$RunningSum" "t" "[I") (by decide +kernel)) (fun _ h9 => h9) rfl dX4_addAlongChord_176 ?_
  refine lv_aload_n hx hb dX4_addAlongChord_179 rfl (lv_at hl 0 rfl) ?_
  refine x_get (v := .ref (h + 70)) hx hb hts in_X4_addAlongChord_X4 hown hK hM (hrn) rfl 11 (by decide) (hts (.fieldLink RX4 47 "LimbCurves$RunningSum" "t" "[I") (by decide +kernel)) (fun _ h9 => h9) rfl dX4_addAlongChord_180 ?_
  refine lv_aload_n hx hb dX4_addAlongChord_183 rfl (lv_at hl 0 rfl) ?_
  refine x_get (v := .ref (h + 68)) hx hb hts in_X4_addAlongChord_X4 hown hK hM (hrn) rfl 9 (by decide) (hts (.fieldLink RX4 41 "LimbCurves$RunningSum" "rise" "[I") (by decide +kernel)) (fun _ h9 => h9) rfl dX4_addAlongChord_184 ?_
  obtain ⟨z9, y9, hrf⟩ := hg.rs.ob
  refine r_Vv (As := [.ref (h + 70), .ref (h + 70), .ref (h + 68)]) (rest := []) C hM hS (c_multiply l D kA N0 _ (h + 49) L pp (h + 70) (h + 70) (h + 68) t2 rs hg.rs hg.wk (hg.rA 8 (by decide)) ((hg.n 8 rfl).1) ((hg.n 6 rfl).1) ((hg.n 8 rfl).2) ((hg.n 6 rfl).2) (by omega) (by omega) (by omega) (by omega) (by omega)) (hrf) rfl gX4_addAlongChord_X3_multiply rfl rfl rfl ⟨rfl, by decide +kernel, by decide +kernel, (by decide +kernel : (parseMethodDescriptor yX3_multiply.desc).map (fun d => d.parameters.length) = some 3)⟩ ⟨Nat.le_of_ble_eq_true rfl, Nat.le_of_ble_eq_true rfl⟩ hl.1 rfl (Nat.le_of_ble_eq_true rfl) dX4_addAlongChord_187 ⟨Nat.le_of_ble_eq_true rfl, Nat.le_of_ble_eq_true rfl⟩ (fun M1 H locs hp hM hS => ?_)
  obtain ⟨q1, q2, q3⟩ := hp
  obtain ⟨t3, et3⟩ : ∃ q, q = t2 * rs % pp := ⟨_, rfl⟩
  rw [← et3] at q1
  have hg : RG kA _ M1 h L pp [some x4, some y, some z2, none, none, some rn, some rs, some s2, some t3] 0 := hg.st 8 (by decide) q1 (by rw [et3]; exact Nat.mod_lt _ hpp) q2 (hg.sp.kept (q3 _ (by omega) (by omega))) (fun b h1 h2 _ => q3 b h1 h2)
  have hrn := hg.rn
  refine lv_aload_n hx hb dX4_addAlongChord_190 rfl (lv_at hl 0 rfl) ?_
  refine x_get (v := .ref (h + 49)) hx hb hts in_X4_addAlongChord_X4 hown hK hM (hrn) rfl 0 (by decide) (hts (.fieldLink RX4 9 "LimbCurves$RunningSum" "field" "LLimbCurves$Residues;") (by decide +kernel)) (fun _ h9 => h9) rfl dX4_addAlongChord_191 ?_
  refine lv_aload_n hx hb dX4_addAlongChord_194 rfl (lv_at hl 0 rfl) ?_
  refine x_get (v := .ref (h + 69)) hx hb hts in_X4_addAlongChord_X4 hown hK hM (hrn) rfl 10 (by decide) (hts (.fieldLink RX4 44 "LimbCurves$RunningSum" "s" "[I") (by decide +kernel)) (fun _ h9 => h9) rfl dX4_addAlongChord_195 ?_
  refine lv_aload_n hx hb dX4_addAlongChord_198 rfl (lv_at hl 0 rfl) ?_
  refine x_get (v := .ref (h + 69)) hx hb hts in_X4_addAlongChord_X4 hown hK hM (hrn) rfl 10 (by decide) (hts (.fieldLink RX4 44 "LimbCurves$RunningSum" "s" "[I") (by decide +kernel)) (fun _ h9 => h9) rfl dX4_addAlongChord_199 ?_
  refine lv_aload_n hx hb dX4_addAlongChord_202 rfl (lv_at hl 0 rfl) ?_
  refine x_get (v := .ref (h + 63)) hx hb hts in_X4_addAlongChord_X4 hown hK hM (hrn) rfl 3 (by decide) (hts (.fieldLink RX4 22 "LimbCurves$RunningSum" "y" "[I") (by decide +kernel)) (fun _ h9 => h9) rfl dX4_addAlongChord_203 ?_
  obtain ⟨z9, y9, hrf⟩ := hg.rs.ob
  refine r_Vv (As := [.ref (h + 69), .ref (h + 69), .ref (h + 63)]) (rest := []) C hM hS (c_multiply l D kA N0 _ (h + 49) L pp (h + 69) (h + 69) (h + 63) s2 y hg.rs hg.wk (hg.rA 7 (by decide)) ((hg.n 7 rfl).1) ((hg.n 1 rfl).1) ((hg.n 7 rfl).2) ((hg.n 1 rfl).2) (by omega) (by omega) (by omega) (by omega) (by omega)) (hrf) rfl gX4_addAlongChord_X3_multiply rfl rfl rfl ⟨rfl, by decide +kernel, by decide +kernel, (by decide +kernel : (parseMethodDescriptor yX3_multiply.desc).map (fun d => d.parameters.length) = some 3)⟩ ⟨Nat.le_of_ble_eq_true rfl, Nat.le_of_ble_eq_true rfl⟩ hl.1 rfl (Nat.le_of_ble_eq_true rfl) dX4_addAlongChord_206 ⟨Nat.le_of_ble_eq_true rfl, Nat.le_of_ble_eq_true rfl⟩ (fun M1 H locs hp hM hS => ?_)
  obtain ⟨q1, q2, q3⟩ := hp
  obtain ⟨s3, es3⟩ : ∃ q, q = s2 * y % pp := ⟨_, rfl⟩
  rw [← es3] at q1
  have hg : RG kA _ M1 h L pp [some x4, some y, some z2, none, none, some rn, some rs, some s3, some t3] 0 := hg.st 7 (by decide) q1 (by rw [es3]; exact Nat.mod_lt _ hpp) q2 (hg.sp.kept (q3 _ (by omega) (by omega))) (fun b h1 h2 _ => q3 b h1 h2)
  have hrn := hg.rn
  refine lv_aload_n hx hb dX4_addAlongChord_209 rfl (lv_at hl 0 rfl) ?_
  refine x_get (v := .ref (h + 49)) hx hb hts in_X4_addAlongChord_X4 hown hK hM (hrn) rfl 0 (by decide) (hts (.fieldLink RX4 9 "LimbCurves$RunningSum" "field" "LLimbCurves$Residues;") (by decide +kernel)) (fun _ h9 => h9) rfl dX4_addAlongChord_210 ?_
  refine lv_aload_n hx hb dX4_addAlongChord_213 rfl (lv_at hl 0 rfl) ?_
  refine x_get (v := .ref (h + 63)) hx hb hts in_X4_addAlongChord_X4 hown hK hM (hrn) rfl 3 (by decide) (hts (.fieldLink RX4 22 "LimbCurves$RunningSum" "y" "[I") (by decide +kernel)) (fun _ h9 => h9) rfl dX4_addAlongChord_214 ?_
  refine lv_aload_n hx hb dX4_addAlongChord_217 rfl (lv_at hl 0 rfl) ?_
  refine x_get (v := .ref (h + 70)) hx hb hts in_X4_addAlongChord_X4 hown hK hM (hrn) rfl 11 (by decide) (hts (.fieldLink RX4 47 "LimbCurves$RunningSum" "t" "[I") (by decide +kernel)) (fun _ h9 => h9) rfl dX4_addAlongChord_218 ?_
  refine lv_aload_n hx hb dX4_addAlongChord_221 rfl (lv_at hl 0 rfl) ?_
  refine x_get (v := .ref (h + 69)) hx hb hts in_X4_addAlongChord_X4 hown hK hM (hrn) rfl 10 (by decide) (hts (.fieldLink RX4 44 "LimbCurves$RunningSum" "s" "[I") (by decide +kernel)) (fun _ h9 => h9) rfl dX4_addAlongChord_222 ?_
  obtain ⟨z9, y9, hrf⟩ := hg.rs.ob
  refine r_Vv (As := [.ref (h + 63), .ref (h + 70), .ref (h + 69)]) (rest := []) C hM hS (c_subtract l D kA N0 _ (h + 49) L pp (h + 63) (h + 70) (h + 69) t3 s3 (nI z9) (nI y9) hrf hg.rs.md (hg.rA 1 (by decide)) ((hg.n 8 rfl).1) ((hg.n 7 rfl).1) ((hg.n 8 rfl).2) (Nat.le_of_lt ((hg.n 7 rfl).2)) (by omega) (by omega)) (hrf) rfl gX4_addAlongChord_X3_subtract rfl rfl rfl ⟨rfl, by decide +kernel, by decide +kernel, (by decide +kernel : (parseMethodDescriptor yX3_subtract.desc).map (fun d => d.parameters.length) = some 3)⟩ ⟨Nat.le_of_ble_eq_true rfl, Nat.le_of_ble_eq_true rfl⟩ hl.1 rfl (Nat.le_of_ble_eq_true rfl) dX4_addAlongChord_225 ⟨Nat.le_of_ble_eq_true rfl, Nat.le_of_ble_eq_true rfl⟩ (fun M1 H locs hp hM hS => ?_)
  obtain ⟨q1, q3⟩ := hp
  obtain ⟨y2, ey2⟩ : ∃ q, q = (t3 + (pp - s3)) % pp := ⟨_, rfl⟩
  rw [← ey2] at q1
  have hg : RG kA _ M1 h L pp [some x4, some y2, some z2, none, none, some rn, some rs, some s3, some t3] 0 := hg.st 1 (by decide) q1 (by rw [ey2]; exact Nat.mod_lt _ hpp) (hg.wk.kept (q3 _ (by omega))) (hg.sp.kept (q3 _ (by omega))) (fun b h1 _ _ => q3 b h1)
  have hrn := hg.rn
  exact r_vret C hM hS (⟨x4, y2, z2, hg.less (gs_less (by simp [gsl])), s1, t1, s2, x1, x2, x3, t2, t3, s3, ez2, es1, et1, es2, ex1, ex2, ex3, ex4, et2, et3, es3, ey2⟩) dX4_addAlongChord_228
set_option maxRecDepth 100000 in
theorem c_addAtSameX (l : Launch) (D : va_G) (kA : Nat → ClassId) (N0 : Nat) (M0 M : xM) (h L pp x y z oy : Nat) (hg : RG kA M0 M h L pp [some x, some y, some z, none, some oy, none, none, none, none] 0) (hpp : 0 < pp) (hL0 : 0 < L) (hL : L < 40) : cV l yX4_addAtSameX wsX4_addAtSameX (xR 3) [.ref (h + 61)] D kA N0 M (fun M1 => ((oy + y) % pp = 0 ∧ RG kA M0 M1 h L pp [some x, some y, some z, none, none, none, none, none, none] 1) ∨ ((oy + y) % pp ≠ 0 ∧ RG kA M0 M1 h L pp [some x, some y, some 0, none, none, none, none, none, none] 0)) := by
  have hrn := hg.rn
  refine r_met (cc := cX4_addAtSameX) (maxL := 1) (ret := none) (by decide) rfl (Nat.le_of_ble_eq_true rfl) ?_
  intro p e s m below meth c ls C hM hnm hl
  obtain ⟨hx, hb, hml, hown, hts, hr, hlocks, hK, hN⟩ := _root_.id C
  have hS : va_S (xA N0) s.heap s.heap [] := va_S.rf
  have hl : lv_has ls 1 [(0, .ref (h + 61))] := hl
  refine lv_aload_n hx hb dX4_addAtSameX_0 rfl (lv_at hl 0 rfl) ?_
  refine x_get (v := .ref (h + 49)) hx hb hts in_X4_addAtSameX_X4 hown hK hM (hrn) rfl 0 (by decide) (hts (.fieldLink RX4 9 "LimbCurves$RunningSum" "field" "LLimbCurves$Residues;") (by decide +kernel)) (fun _ h9 => h9) rfl dX4_addAtSameX_1 ?_
  refine lv_aload_n hx hb dX4_addAtSameX_4 rfl (lv_at hl 0 rfl) ?_
  refine x_get (v := .ref (h + 69)) hx hb hts in_X4_addAtSameX_X4 hown hK hM (hrn) rfl 10 (by decide) (hts (.fieldLink RX4 44 "LimbCurves$RunningSum" "s" "[I") (by decide +kernel)) (fun _ h9 => h9) rfl dX4_addAtSameX_5 ?_
  refine lv_aload_n hx hb dX4_addAtSameX_8 rfl (lv_at hl 0 rfl) ?_
  refine x_get (v := .ref (h + 66)) hx hb hts in_X4_addAtSameX_X4 hown hK hM (hrn) rfl 7 (by decide) (hts (.fieldLink RX4 35 "LimbCurves$RunningSum" "otherY" "[I") (by decide +kernel)) (fun _ h9 => h9) rfl dX4_addAtSameX_9 ?_
  refine lv_aload_n hx hb dX4_addAtSameX_12 rfl (lv_at hl 0 rfl) ?_
  refine x_get (v := .ref (h + 63)) hx hb hts in_X4_addAtSameX_X4 hown hK hM (hrn) rfl 3 (by decide) (hts (.fieldLink RX4 22 "LimbCurves$RunningSum" "y" "[I") (by decide +kernel)) (fun _ h9 => h9) rfl dX4_addAtSameX_13 ?_
  obtain ⟨z9, y9, hrf⟩ := hg.rs.ob
  refine r_Vv (As := [.ref (h + 69), .ref (h + 66), .ref (h + 63)]) (rest := []) C hM hS (c_add l D kA N0 _ (h + 49) L pp (h + 69) (h + 66) (h + 63) oy y hg.rs (hg.rA 7 (by decide)) ((hg.n 4 rfl).1) ((hg.n 1 rfl).1) ((hg.n 4 rfl).2) ((hg.n 1 rfl).2) (by omega) (by omega)) (hrf) rfl gX4_addAtSameX_X3_add rfl rfl rfl ⟨rfl, by decide +kernel, by decide +kernel, (by decide +kernel : (parseMethodDescriptor yX3_add.desc).map (fun d => d.parameters.length) = some 3)⟩ ⟨Nat.le_of_ble_eq_true rfl, Nat.le_of_ble_eq_true rfl⟩ hl.1 rfl (Nat.le_of_ble_eq_true rfl) dX4_addAtSameX_16 ⟨Nat.le_of_ble_eq_true rfl, Nat.le_of_ble_eq_true rfl⟩ (fun M1 H locs hp hM hS => ?_)
  obtain ⟨q1, q3⟩ := hp
  obtain ⟨s1, es1⟩ : ∃ q, q = (oy + y) % pp := ⟨_, rfl⟩
  rw [← es1] at q1
  have hg : RG kA _ M1 h L pp [some x, some y, some z, none, some oy, none, none, some s1, none] 0 := hg.st 7 (by decide) q1 (by rw [es1]; exact Nat.mod_lt _ hpp) (hg.wk.kept (q3 _ (by omega))) (hg.sp.kept (q3 _ (by omega))) (fun b h1 _ _ => q3 b h1)
  have hrn := hg.rn
  obtain ⟨⟨fs, hs7, ns, Vs⟩, sb⟩ := hg.n 7 rfl
  refine lv_aload_n hx hb dX4_addAtSameX_19 rfl (lv_at hl 0 rfl) ?_
  refine x_get (v := .ref (h + 69)) hx hb hts in_X4_addAtSameX_X4 hown hK hM (hrn) rfl 10 (by decide) (hts (.fieldLink RX4 44 "LimbCurves$RunningSum" "s" "[I") (by decide +kernel)) (fun _ h9 => h9) rfl dX4_addAtSameX_20 ?_
  refine r_Si (As := [.ref (h + 69)]) (rest := []) C hM hS (c_isZero l D kA N0 M1 (h + 69) L fs hs7 ns (by omega)) gX4_addAtSameX_X1_isZero rfl rfl rfl ⟨by decide +kernel, by decide +kernel, (by decide +kernel : (parseMethodDescriptor yX1_isZero.desc).map (fun d => d.parameters.length) = some 1)⟩ ⟨Nat.le_of_ble_eq_true rfl, Nat.le_of_ble_eq_true rfl⟩ hl.1 rfl (Nat.le_of_ble_eq_true rfl) dX4_addAtSameX_23 ⟨Nat.le_of_ble_eq_true rfl, Nat.le_of_ble_eq_true rfl⟩ (fun q M2 H locs hp hM hS => ?_)
  obtain ⟨eM, hq⟩ := hp
  rw [eM] at hM
  rw [Vs] at hq
  refine lv_if_eq (tgt := 37) hx hb dX4_addAtSameX_26 (by decide) (fun hz => ?_) (fun hz => ?_)
  · have hs0 : s1 ≠ 0 := by
      rcases hq with ⟨h1, h2⟩ | ⟨h1, h2⟩
      · rw [h1] at hz; exact absurd hz (by decide)
      · omega
    obtain ⟨fz, hzz⟩ := hg.rA 2 (by decide)
    refine lv_aload_n hx hb dX4_addAtSameX_37 rfl (lv_at hl 0 rfl) ?_
    refine x_get (v := .ref (h + 64)) hx hb hts in_X4_addAtSameX_X4 hown hK hM (hrn) rfl 4 (by decide) (hts (.fieldLink RX4 25 "LimbCurves$RunningSum" "z" "[I") (by decide +kernel)) (fun _ h9 => h9) rfl dX4_addAtSameX_38 ?_
    refine lv_iconst (v := nI 0) hx hb dX4_addAtSameX_41 (by decide) ?_
    refine r_Sv (As := [.ref (h + 64), .int (nI 0)]) (rest := []) C hM hS (c_set l D kA N0 M1 (h + 64) L fz (nI 0) hzz hL0 (by omega)) gX4_addAtSameX_X1_set rfl rfl rfl ⟨by decide +kernel, by decide +kernel, (by decide +kernel : (parseMethodDescriptor yX1_set.desc).map (fun d => d.parameters.length) = some 2)⟩ ⟨Nat.le_of_ble_eq_true rfl, Nat.le_of_ble_eq_true rfl⟩ hl.1 rfl (Nat.le_of_ble_eq_true rfl) dX4_addAtSameX_42 ⟨Nat.le_of_ble_eq_true rfl, Nat.le_of_ble_eq_true rfl⟩ (fun M2 H locs hp hM hS => ?_)
    obtain ⟨f, rfl, h1, h2⟩ := hp
    have hn : isN kA (xset M1 (h + 64) (xI (kA 0) L f)) (h + 62 + 2) L 0 := ⟨f, xset_s, nn_set (by decide) h1 h2, by rw [V_set hL0 h1 h2]; rfl⟩
    have hg2 := hg.st 2 (by decide) hn hpp (hg.wk.kept (xset_n (by omega))) (hg.sp.kept (xset_n (by omega))) (fun b h1 _ _ => xset_n h1)
    exact r_vret C hM hS (Or.inr ⟨by rw [← es1]; exact hs0, hg2.less (gs_less (by simp [gsl]))⟩) dX4_addAtSameX_45
  · have hs0 : s1 = 0 := by
      rcases hq with ⟨h1, h2⟩ | ⟨h1, h2⟩
      · exact h2
      · exact absurd h1 hz
    refine lv_aload_n hx hb dX4_addAtSameX_29 rfl (lv_at hl 0 rfl) ?_
    refine lv_iconst (v := nI 1) hx hb dX4_addAtSameX_30 (by decide) ?_
    refine x_put (v := .int (nI 1)) (ty := .boolean) hx hb hts in_X4_addAtSameX_X4 tyX4 tyX4_ok nmX4 hown hK hM hS (hrn) rfl 5 (by decide) (hts (.fieldLink RX4 28 "LimbCurves$RunningSum" "identity" "Z") (by decide +kernel)) (fun _ h9 => h9) rfl (by decide +kernel) rfl rfl (Nat.le_of_ble_eq_true rfl) dX4_addAtSameX_31 (fun H locs hM hS => ?_)
    have hM : xW D vwCl N0 (xset M1 (h + 61) (oRn h (nI 1))) H := hM
    refine lv_goto (tgt := 45) hx hb dX4_addAtSameX_34 (by decide) ?_
    exact r_vret C hM hS (Or.inl ⟨by rw [← es1]; exact hs0, (hg.mark 1).less (gs_less (by simp [gsl]))⟩) dX4_addAtSameX_45
set_option maxRecDepth 100000 in
theorem c_bringToSameZ (l : Launch) (D : va_G) (kA : Nat → ClassId) (N0 : Nat) (M0 M : xM) (h L pp q id X Y z : Nat) (g0 g1 : Option Nat) (pid : Int32) (hg : RG kA M0 M h L pp [g0, g1, some z, none, none, none, none, none, none] id) (hpt : M0 q = some (oPt q pid)) (hX : isN kA M0 (q + 1) L X) (hY : isN kA M0 (q + 2) L Y) (hXb : X < pp) (hYb : Y < pp) (hq : q + 2 < h + 49 ∨ h + 70 < q) (hpp : 0 < pp) (hL : L < 40) : cV l yX4_bringToSameZ wsX4_bringToSameZ (xR 3) [.ref (h + 61), .ref q] D kA N0 M (fun M1 => RG kA M0 M1 h L pp [g0, g1, some z, some (X * (z * z % pp) % pp), some (Y * ((z * z % pp) * z % pp) % pp), none, none, none, none] id) := by
  have hrn := hg.rn
  refine r_met (cc := cX4_bringToSameZ) (maxL := 2) (ret := none) (by decide) rfl (Nat.le_of_ble_eq_true rfl) ?_
  intro p e s m below meth c ls C hM hnm hl
  obtain ⟨hx, hb, hml, hown, hts, hr, hlocks, hK, hN⟩ := _root_.id C
  have hS : va_S (xA N0) s.heap s.heap [] := va_S.rf
  have hl : lv_has ls 2 [(0, .ref (h + 61)), (1, .ref q)] := hl
  refine lv_aload_n hx hb dX4_bringToSameZ_0 rfl (lv_at hl 0 rfl) ?_
  refine x_get (v := .ref (h + 49)) hx hb hts in_X4_bringToSameZ_X4 hown hK hM (hrn) rfl 0 (by decide) (hts (.fieldLink RX4 9 "LimbCurves$RunningSum" "field" "LLimbCurves$Residues;") (by decide +kernel)) (fun _ h9 => h9) rfl dX4_bringToSameZ_1 ?_
  refine lv_aload_n hx hb dX4_bringToSameZ_4 rfl (lv_at hl 0 rfl) ?_
  refine x_get (v := .ref (h + 69)) hx hb hts in_X4_bringToSameZ_X4 hown hK hM (hrn) rfl 10 (by decide) (hts (.fieldLink RX4 44 "LimbCurves$RunningSum" "s" "[I") (by decide +kernel)) (fun _ h9 => h9) rfl dX4_bringToSameZ_5 ?_
  refine lv_aload_n hx hb dX4_bringToSameZ_8 rfl (lv_at hl 0 rfl) ?_
  refine x_get (v := .ref (h + 64)) hx hb hts in_X4_bringToSameZ_X4 hown hK hM (hrn) rfl 4 (by decide) (hts (.fieldLink RX4 25 "LimbCurves$RunningSum" "z" "[I") (by decide +kernel)) (fun _ h9 => h9) rfl dX4_bringToSameZ_9 ?_
  refine lv_aload_n hx hb dX4_bringToSameZ_12 rfl (lv_at hl 0 rfl) ?_
  refine x_get (v := .ref (h + 64)) hx hb hts in_X4_bringToSameZ_X4 hown hK hM (hrn) rfl 4 (by decide) (hts (.fieldLink RX4 25 "LimbCurves$RunningSum" "z" "[I") (by decide +kernel)) (fun _ h9 => h9) rfl dX4_bringToSameZ_13 ?_
  obtain ⟨z9, y9, hrf⟩ := hg.rs.ob
  refine r_Vv (As := [.ref (h + 69), .ref (h + 64), .ref (h + 64)]) (rest := []) C hM hS (c_multiply l D kA N0 _ (h + 49) L pp (h + 69) (h + 64) (h + 64) z z hg.rs hg.wk (hg.rA 7 (by decide)) ((hg.n 2 rfl).1) ((hg.n 2 rfl).1) ((hg.n 2 rfl).2) ((hg.n 2 rfl).2) (by omega) (by omega) (by omega) (by omega) (by omega)) (hrf) rfl gX4_bringToSameZ_X3_multiply rfl rfl rfl ⟨rfl, by decide +kernel, by decide +kernel, (by decide +kernel : (parseMethodDescriptor yX3_multiply.desc).map (fun d => d.parameters.length) = some 3)⟩ ⟨Nat.le_of_ble_eq_true rfl, Nat.le_of_ble_eq_true rfl⟩ hl.1 rfl (Nat.le_of_ble_eq_true rfl) dX4_bringToSameZ_16 ⟨Nat.le_of_ble_eq_true rfl, Nat.le_of_ble_eq_true rfl⟩ (fun M1 H locs hp hM hS => ?_)
  obtain ⟨q1, q2, q3⟩ := hp
  obtain ⟨s1, es1⟩ : ∃ q, q = z * z % pp := ⟨_, rfl⟩
  rw [← es1] at q1
  have hg : RG kA _ M1 h L pp [g0, g1, some z, none, none, none, none, some s1, none] id := hg.st 7 (by decide) q1 (by rw [es1]; exact Nat.mod_lt _ hpp) q2 (hg.sp.kept (q3 _ (by omega) (by omega))) (fun b h1 h2 _ => q3 b h1 h2)
  have hrn := hg.rn
  refine lv_aload_n hx hb dX4_bringToSameZ_19 rfl (lv_at hl 0 rfl) ?_
  refine x_get (v := .ref (h + 49)) hx hb hts in_X4_bringToSameZ_X4 hown hK hM (hrn) rfl 0 (by decide) (hts (.fieldLink RX4 9 "LimbCurves$RunningSum" "field" "LLimbCurves$Residues;") (by decide +kernel)) (fun _ h9 => h9) rfl dX4_bringToSameZ_20 ?_
  refine lv_aload_n hx hb dX4_bringToSameZ_23 rfl (lv_at hl 0 rfl) ?_
  refine x_get (v := .ref (h + 65)) hx hb hts in_X4_bringToSameZ_X4 hown hK hM (hrn) rfl 6 (by decide) (hts (.fieldLink RX4 32 "LimbCurves$RunningSum" "otherX" "[I") (by decide +kernel)) (fun _ h9 => h9) rfl dX4_bringToSameZ_24 ?_
  refine lv_aload_n hx hb dX4_bringToSameZ_27 rfl (lv_at hl 1 rfl) ?_
  refine x_get (v := .ref (q + 1)) hx hb hts in_X4_bringToSameZ_X2 hown hK hM (by rw [hg.fr _ (by omega)]; exact hpt) rfl 0 (by decide) (hts (.fieldLink RX4 102 "LimbCurves$Point" "x" "[I") (by decide +kernel)) (fun _ h9 => h9) rfl dX4_bringToSameZ_28 ?_
  refine lv_aload_n hx hb dX4_bringToSameZ_31 rfl (lv_at hl 0 rfl) ?_
  refine x_get (v := .ref (h + 69)) hx hb hts in_X4_bringToSameZ_X4 hown hK hM (hrn) rfl 10 (by decide) (hts (.fieldLink RX4 44 "LimbCurves$RunningSum" "s" "[I") (by decide +kernel)) (fun _ h9 => h9) rfl dX4_bringToSameZ_32 ?_
  obtain ⟨z9, y9, hrf⟩ := hg.rs.ob
  refine r_Vv (As := [.ref (h + 65), .ref (q + 1), .ref (h + 69)]) (rest := []) C hM hS (c_multiply l D kA N0 _ (h + 49) L pp (h + 65) (q + 1) (h + 69) X s1 hg.rs hg.wk (hg.rA 3 (by decide)) (hX.kept (hg.fr _ (by omega))) ((hg.n 7 rfl).1) (hXb) ((hg.n 7 rfl).2) (by omega) (by omega) (by omega) (by omega) (by omega)) (hrf) rfl gX4_bringToSameZ_X3_multiply rfl rfl rfl ⟨rfl, by decide +kernel, by decide +kernel, (by decide +kernel : (parseMethodDescriptor yX3_multiply.desc).map (fun d => d.parameters.length) = some 3)⟩ ⟨Nat.le_of_ble_eq_true rfl, Nat.le_of_ble_eq_true rfl⟩ hl.1 rfl (Nat.le_of_ble_eq_true rfl) dX4_bringToSameZ_35 ⟨Nat.le_of_ble_eq_true rfl, Nat.le_of_ble_eq_true rfl⟩ (fun M1 H locs hp hM hS => ?_)
  obtain ⟨q1, q2, q3⟩ := hp
  obtain ⟨ox, eox⟩ : ∃ q, q = X * s1 % pp := ⟨_, rfl⟩
  rw [← eox] at q1
  have hg : RG kA _ M1 h L pp [g0, g1, some z, some ox, none, none, none, some s1, none] id := hg.st 3 (by decide) q1 (by rw [eox]; exact Nat.mod_lt _ hpp) q2 (hg.sp.kept (q3 _ (by omega) (by omega))) (fun b h1 h2 _ => q3 b h1 h2)
  have hrn := hg.rn
  refine lv_aload_n hx hb dX4_bringToSameZ_38 rfl (lv_at hl 0 rfl) ?_
  refine x_get (v := .ref (h + 49)) hx hb hts in_X4_bringToSameZ_X4 hown hK hM (hrn) rfl 0 (by decide) (hts (.fieldLink RX4 9 "LimbCurves$RunningSum" "field" "LLimbCurves$Residues;") (by decide +kernel)) (fun _ h9 => h9) rfl dX4_bringToSameZ_39 ?_
  refine lv_aload_n hx hb dX4_bringToSameZ_42 rfl (lv_at hl 0 rfl) ?_
  refine x_get (v := .ref (h + 69)) hx hb hts in_X4_bringToSameZ_X4 hown hK hM (hrn) rfl 10 (by decide) (hts (.fieldLink RX4 44 "LimbCurves$RunningSum" "s" "[I") (by decide +kernel)) (fun _ h9 => h9) rfl dX4_bringToSameZ_43 ?_
  refine lv_aload_n hx hb dX4_bringToSameZ_46 rfl (lv_at hl 0 rfl) ?_
  refine x_get (v := .ref (h + 69)) hx hb hts in_X4_bringToSameZ_X4 hown hK hM (hrn) rfl 10 (by decide) (hts (.fieldLink RX4 44 "LimbCurves$RunningSum" "s" "[I") (by decide +kernel)) (fun _ h9 => h9) rfl dX4_bringToSameZ_47 ?_
  refine lv_aload_n hx hb dX4_bringToSameZ_50 rfl (lv_at hl 0 rfl) ?_
  refine x_get (v := .ref (h + 64)) hx hb hts in_X4_bringToSameZ_X4 hown hK hM (hrn) rfl 4 (by decide) (hts (.fieldLink RX4 25 "LimbCurves$RunningSum" "z" "[I") (by decide +kernel)) (fun _ h9 => h9) rfl dX4_bringToSameZ_51 ?_
  obtain ⟨z9, y9, hrf⟩ := hg.rs.ob
  refine r_Vv (As := [.ref (h + 69), .ref (h + 69), .ref (h + 64)]) (rest := []) C hM hS (c_multiply l D kA N0 _ (h + 49) L pp (h + 69) (h + 69) (h + 64) s1 z hg.rs hg.wk (hg.rA 7 (by decide)) ((hg.n 7 rfl).1) ((hg.n 2 rfl).1) ((hg.n 7 rfl).2) ((hg.n 2 rfl).2) (by omega) (by omega) (by omega) (by omega) (by omega)) (hrf) rfl gX4_bringToSameZ_X3_multiply rfl rfl rfl ⟨rfl, by decide +kernel, by decide +kernel, (by decide +kernel : (parseMethodDescriptor yX3_multiply.desc).map (fun d => d.parameters.length) = some 3)⟩ ⟨Nat.le_of_ble_eq_true rfl, Nat.le_of_ble_eq_true rfl⟩ hl.1 rfl (Nat.le_of_ble_eq_true rfl) dX4_bringToSameZ_54 ⟨Nat.le_of_ble_eq_true rfl, Nat.le_of_ble_eq_true rfl⟩ (fun M1 H locs hp hM hS => ?_)
  obtain ⟨q1, q2, q3⟩ := hp
  obtain ⟨s2, es2⟩ : ∃ q, q = s1 * z % pp := ⟨_, rfl⟩
  rw [← es2] at q1
  have hg : RG kA _ M1 h L pp [g0, g1, some z, some ox, none, none, none, some s2, none] id := hg.st 7 (by decide) q1 (by rw [es2]; exact Nat.mod_lt _ hpp) q2 (hg.sp.kept (q3 _ (by omega) (by omega))) (fun b h1 h2 _ => q3 b h1 h2)
  have hrn := hg.rn
  refine lv_aload_n hx hb dX4_bringToSameZ_57 rfl (lv_at hl 0 rfl) ?_
  refine x_get (v := .ref (h + 49)) hx hb hts in_X4_bringToSameZ_X4 hown hK hM (hrn) rfl 0 (by decide) (hts (.fieldLink RX4 9 "LimbCurves$RunningSum" "field" "LLimbCurves$Residues;") (by decide +kernel)) (fun _ h9 => h9) rfl dX4_bringToSameZ_58 ?_
  refine lv_aload_n hx hb dX4_bringToSameZ_61 rfl (lv_at hl 0 rfl) ?_
  refine x_get (v := .ref (h + 66)) hx hb hts in_X4_bringToSameZ_X4 hown hK hM (hrn) rfl 7 (by decide) (hts (.fieldLink RX4 35 "LimbCurves$RunningSum" "otherY" "[I") (by decide +kernel)) (fun _ h9 => h9) rfl dX4_bringToSameZ_62 ?_
  refine lv_aload_n hx hb dX4_bringToSameZ_65 rfl (lv_at hl 1 rfl) ?_
  refine x_get (v := .ref (q + 2)) hx hb hts in_X4_bringToSameZ_X2 hown hK hM (by rw [hg.fr _ (by omega)]; exact hpt) rfl 1 (by decide) (hts (.fieldLink RX4 103 "LimbCurves$Point" "y" "[I") (by decide +kernel)) (fun _ h9 => h9) rfl dX4_bringToSameZ_66 ?_
  refine lv_aload_n hx hb dX4_bringToSameZ_69 rfl (lv_at hl 0 rfl) ?_
  refine x_get (v := .ref (h + 69)) hx hb hts in_X4_bringToSameZ_X4 hown hK hM (hrn) rfl 10 (by decide) (hts (.fieldLink RX4 44 "LimbCurves$RunningSum" "s" "[I") (by decide +kernel)) (fun _ h9 => h9) rfl dX4_bringToSameZ_70 ?_
  obtain ⟨z9, y9, hrf⟩ := hg.rs.ob
  refine r_Vv (As := [.ref (h + 66), .ref (q + 2), .ref (h + 69)]) (rest := []) C hM hS (c_multiply l D kA N0 _ (h + 49) L pp (h + 66) (q + 2) (h + 69) Y s2 hg.rs hg.wk (hg.rA 4 (by decide)) (hY.kept (hg.fr _ (by omega))) ((hg.n 7 rfl).1) (hYb) ((hg.n 7 rfl).2) (by omega) (by omega) (by omega) (by omega) (by omega)) (hrf) rfl gX4_bringToSameZ_X3_multiply rfl rfl rfl ⟨rfl, by decide +kernel, by decide +kernel, (by decide +kernel : (parseMethodDescriptor yX3_multiply.desc).map (fun d => d.parameters.length) = some 3)⟩ ⟨Nat.le_of_ble_eq_true rfl, Nat.le_of_ble_eq_true rfl⟩ hl.1 rfl (Nat.le_of_ble_eq_true rfl) dX4_bringToSameZ_73 ⟨Nat.le_of_ble_eq_true rfl, Nat.le_of_ble_eq_true rfl⟩ (fun M1 H locs hp hM hS => ?_)
  obtain ⟨q1, q2, q3⟩ := hp
  obtain ⟨oy, eoy⟩ : ∃ q, q = Y * s2 % pp := ⟨_, rfl⟩
  rw [← eoy] at q1
  have hg : RG kA _ M1 h L pp [g0, g1, some z, some ox, some oy, none, none, some s2, none] id := hg.st 4 (by decide) q1 (by rw [eoy]; exact Nat.mod_lt _ hpp) q2 (hg.sp.kept (q3 _ (by omega) (by omega))) (fun b h1 h2 _ => q3 b h1 h2)
  have hrn := hg.rn
  subst es1
  subst eox
  subst es2
  subst eoy
  exact r_vret C hM hS (hg.less (gs_less (by cases g0 <;> cases g1 <;> simp [gsl]))) dX4_bringToSameZ_76
end RUN2
