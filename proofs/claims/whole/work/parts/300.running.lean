theorem in_X4_startAtIdentity_X4 : ∀ w ∈ wsX40, w ∈ wsX4_startAtIdentity := by decide +kernel
-- THE OBJECTS OF A DESK AT h: parameters h+2 .. h+5, point i at h+7+3i, scalars h+32 .. h+39, order h+40, field h+49, curve h+58, running sum h+61, left h+71, right h+72, result h+73
abbrev oPt (a : Nat) (id : Int32) : va_E := xO 1 [.ref (a + 1), .ref (a + 2), .int id]
abbrev oCv (h : Nat) : va_E := xO 0 [.ref (h + 2), .ref (h + 3), .ref (h + 4), .ref (h + 49), .ref (h + 59), .ref (h + 60)]
abbrev oRn (h : Nat) (id : Int32) : va_E := xO 3 [.ref (h + 49), .ref (h + 3), .ref (h + 62), .ref (h + 63), .ref (h + 64), .int id, .ref (h + 65), .ref (h + 66), .ref (h + 67), .ref (h + 68), .ref (h + 69), .ref (h + 70)]
theorem Rs.ob {kA : Nat → ClassId} {M : xM} {r L m : Nat} (h : Rs kA M r L m) : ∃ sz sh : Nat, M r = some (oRes r (nI sz) (nI sh)) := by
  obtain ⟨sz, sh, fm, fd, h1, -⟩ := h
  exact ⟨sz, sh, h1⟩
theorem Rs.md {kA : Nat → ClassId} {M : xM} {r L m : Nat} (h : Rs kA M r L m) : isN kA M (r + 1) L m := by
  obtain ⟨sz, sh, fm, fd, -, h1, -, h2, -, h3, -⟩ := h
  exact ⟨fm, h1, h2, h3⟩
/-- the running sum's rows: what is known of x, y, z, otherX, otherY, run, rise, s, t; outside of field and running sum all is as in M0 -/
def RG (kA : Nat → ClassId) (M0 M : xM) (h L pp : Nat) (gs : List (Option Nat)) (id : Nat) : Prop := M (h + 61) = some (oRn h (nI id)) ∧ Rs kA M (h + 49) L pp ∧ isA kA M (h + 49 + 3) (2 * L + 1) ∧ isA kA M (h + 49 + 4) L ∧ isA kA M (h + 49 + 5) L ∧ isA kA M (h + 49 + 6) L ∧ isA kA M (h + 49 + 7) L ∧ isA kA M (h + 49 + 8) L ∧ (∀ k, k < 9 → isA kA M (h + 62 + k) L) ∧ (∀ k v : Nat, gs[k]? = some (some v) → isN kA M (h + 62 + k) L v ∧ v < pp) ∧ (∀ b, b < h + 49 ∨ h + 70 < b ∨ (h + 58 ≤ b ∧ b ≤ h + 60) → M b = M0 b)
section RGS
variable {kA : Nat → ClassId} {M0 M M1 : xM} {h L pp id : Nat} {gs : List (Option Nat)}
theorem RG.rn (g : RG kA M0 M h L pp gs id) : M (h + 61) = some (oRn h (nI id)) := g.1
theorem RG.rs (g : RG kA M0 M h L pp gs id) : Rs kA M (h + 49) L pp := g.2.1
theorem RG.wk (g : RG kA M0 M h L pp gs id) : isA kA M (h + 49 + 3) (2 * L + 1) := g.2.2.1
theorem RG.sp (g : RG kA M0 M h L pp gs id) : isA kA M (h + 49 + 4) L := g.2.2.2.1
theorem RG.rA (g : RG kA M0 M h L pp gs id) (k : Nat) (hk : k < 9) : isA kA M (h + 62 + k) L := g.2.2.2.2.2.2.2.2.1 k hk
theorem RG.n (g : RG kA M0 M h L pp gs id) (k : Nat) {v : Nat} (hk : gs[k]? = some (some v)) : isN kA M (h + 62 + k) L v ∧ v < pp := g.2.2.2.2.2.2.2.2.2.1 k v hk
theorem RG.fr (g : RG kA M0 M h L pp gs id) (b : Nat) (hb : b < h + 49 ∨ h + 70 < b ∨ (h + 58 ≤ b ∧ b ≤ h + 60)) : M b = M0 b := g.2.2.2.2.2.2.2.2.2.2 b hb
/-- a row gets a new number; work and spare may change -/
theorem RG.st (g : RG kA M0 M h L pp gs id) (k : Nat) {v : Nat} (hk : k < 9) (hn : isN kA M1 (h + 62 + k) L v) (hv : v < pp) (hw : isA kA M1 (h + 49 + 3) (2 * L + 1)) (hs : isA kA M1 (h + 49 + 4) L) (hf : ∀ b, b ≠ h + 62 + k → b ≠ h + 49 + 3 → b ≠ h + 49 + 4 → M1 b = M b) : RG kA M0 M1 h L pp (gs.set k (some v)) id := by
  obtain ⟨a1, a2, a3, a4, a5, a6, a7, a8, a9, a10, a11⟩ := g
  refine ⟨by rw [hf _ (by omega) (by omega) (by omega)]; exact a1, a2.kept (hf _ (by omega) (by omega) (by omega)) (hf _ (by omega) (by omega) (by omega)) (hf _ (by omega) (by omega) (by omega)), hw, hs, a5.kept (hf _ (by omega) (by omega) (by omega)), a6.kept (hf _ (by omega) (by omega) (by omega)), a7.kept (hf _ (by omega) (by omega) (by omega)), a8.kept (hf _ (by omega) (by omega) (by omega)), fun j hj => ?_, fun j w hj => ?_, fun b hb => by rw [hf _ (by omega) (by omega) (by omega)]; exact a11 b hb⟩
  · by_cases e : j = k
    · rw [e]; exact hn.isA
    · exact (a9 j hj).kept (hf _ (by omega) (by omega) (by omega))
  · by_cases e : j = k
    · subst e
      by_cases hl : j < gs.length
      · rw [List.getElem?_set_self hl] at hj
        cases hj
        exact ⟨hn, hv⟩
      · rw [List.getElem?_eq_none (by rw [List.length_set]; omega)] at hj
        cases hj
    · rw [List.getElem?_set_ne (fun q => e q.symm)] at hj
      have := a10 j w hj
      exact ⟨this.1.kept (hf _ (by omega) (by omega) (by omega)), this.2⟩
/-- less is known -/
theorem RG.less (g : RG kA M0 M h L pp gs id) {gs' : List (Option Nat)} (hl : ∀ k v : Nat, gs'[k]? = some (some v) → gs[k]? = some (some v)) : RG kA M0 M h L pp gs' id := by
  obtain ⟨a1, a2, a3, a4, a5, a6, a7, a8, a9, a10, a11⟩ := g
  exact ⟨a1, a2, a3, a4, a5, a6, a7, a8, a9, fun k v hk => a10 k v (hl k v hk), a11⟩
/-- the mark 'identity' is set anew -/
theorem RG.mark (g : RG kA M0 M h L pp gs id) (id' : Nat) : RG kA M0 (xset M (h + 61) (oRn h (nI id'))) h L pp gs id' := by
  obtain ⟨a1, a2, a3, a4, a5, a6, a7, a8, a9, a10, a11⟩ := g
  have hf : ∀ b, b ≠ h + 61 → xset M (h + 61) (oRn h (nI id')) b = M b := fun b hb => xset_n hb
  exact ⟨xset_s, a2.kept (hf _ (by omega)) (hf _ (by omega)) (hf _ (by omega)), a3.kept (hf _ (by omega)), a4.kept (hf _ (by omega)), a5.kept (hf _ (by omega)), a6.kept (hf _ (by omega)), a7.kept (hf _ (by omega)), a8.kept (hf _ (by omega)), fun j hj => (a9 j hj).kept (hf _ (by omega)), fun j w hj => ⟨(a10 j w hj).1.kept (hf _ (by omega)), (a10 j w hj).2⟩, fun b hb => by rw [hf _ (by omega)]; exact a11 b hb⟩
end RGS
/-- the document's sum of a point and itself, without its fractions -/
def dblEq (pp A x y z x' y' z' : Nat) : Prop := ∃ s1 s2 s3 r1 r2 r3 z1 s4 t1 t2 t3 x1 x2 t4 t5 s5 s6 s7 s8 : Nat, s1 = z * z % pp ∧ s2 = s1 * s1 % pp ∧ s3 = s2 * A % pp ∧ r1 = x * x % pp ∧ r2 = ((r1 + r1) % pp + r1) % pp ∧ r3 = (r2 + s3) % pp ∧ z1 = z * y % pp ∧ z' = (z1 + z1) % pp ∧ s4 = y * y % pp ∧ t1 = x * s4 % pp ∧ t2 = (t1 + t1) % pp ∧ t3 = (t2 + t2) % pp ∧ x1 = r3 * r3 % pp ∧ x2 = (x1 + (pp - t3)) % pp ∧ x' = (x2 + (pp - t3)) % pp ∧ t4 = (t3 + (pp - x')) % pp ∧ t5 = t4 * r3 % pp ∧ s5 = s4 * s4 % pp ∧ s6 = (s5 + s5) % pp ∧ s7 = (s6 + s6) % pp ∧ s8 = (s7 + s7) % pp ∧ y' = (t5 + (pp - s8)) % pp
/-- the sum for two X, without its fractions: rn = u - x, rs = v - y at the same z -/
def chdEq (pp x y z rn rs x' y' z' : Nat) : Prop := ∃ s1 t1 s2 x1 x2 x3 t2 t3 s3 : Nat, z' = z * rn % pp ∧ s1 = rn * rn % pp ∧ t1 = x * s1 % pp ∧ s2 = s1 * rn % pp ∧ x1 = rs * rs % pp ∧ x2 = (x1 + (pp - s2)) % pp ∧ x3 = (x2 + (pp - t1)) % pp ∧ x' = (x3 + (pp - t1)) % pp ∧ t2 = (t1 + (pp - x')) % pp ∧ t3 = t2 * rs % pp ∧ s3 = s2 * y % pp ∧ y' = (t3 + (pp - s3)) % pp
section RUN
variable {p : Program} {l : Launch} {e : Env} {R : Room} {s : State} {m : MethodId} {args : Array Value} {below : List Frame} {meth : Method} {c : Code} {Q : State → Prop} {cells slots : Nat} {ret : Option FieldType} {D : va_G} {kA : Nat → ClassId} {N0 : Nat}
set_option maxRecDepth 100000 in
theorem c_startAtIdentity (l : Launch) (D : va_G) (kA : Nat → ClassId) (N0 : Nat) (M0 M : xM) (h L pp id : Nat) (gs : List (Option Nat)) (hg : RG kA M0 M h L pp gs id) (hpp : 1 < pp) (hL0 : 0 < L) (hL : L < 40) : cV l yX4_startAtIdentity wsX4_startAtIdentity (xR 2) [.ref (h + 61)] D kA N0 M (fun M1 => RG kA M0 M1 h L pp [none, none, some 1, none, none, none, none, none, none] 1) := by
  have hrn := hg.rn
  refine r_met (cc := cX4_startAtIdentity) (maxL := 1) (ret := none) (by decide) rfl (Nat.le_of_ble_eq_true rfl) ?_
  intro p e s m below meth c ls C hM hnm hl
  obtain ⟨hx, hb, hml, hown, hts, hr, hlocks, hK, hN⟩ := _root_.id C
  have hS : va_S (xA N0) s.heap s.heap [] := va_S.rf
  have hl : lv_has ls 1 [(0, .ref (h + 61))] := hl
  refine lv_aload_n hx hb dX4_startAtIdentity_0 rfl (lv_at hl 0 rfl) ?_
  refine lv_iconst (v := nI 1) hx hb dX4_startAtIdentity_1 (by decide) ?_
  refine x_put (v := .int (nI 1)) (ty := .boolean) hx hb hts in_X4_startAtIdentity_X4 tyX4 tyX4_ok nmX4 hown hK hM hS (hrn) rfl 5 (by decide) (hts (.fieldLink RX4 28 "LimbCurves$RunningSum" "identity" "Z") (by decide +kernel)) (fun _ h9 => h9) rfl (by decide +kernel) rfl rfl (Nat.le_of_ble_eq_true rfl) dX4_startAtIdentity_2 (fun H locs hM hS => ?_)
  have hM : xW D vwCl N0 (xset M (h + 61) (oRn h (nI 1))) H := hM
  have hg := hg.mark 1
  have hrn := hg.rn
  obtain ⟨fz, hz⟩ := hg.rA 2 (by decide)
  refine lv_aload_n hx hb dX4_startAtIdentity_5 rfl (lv_at hl 0 rfl) ?_
  refine x_get (v := .ref (h + 64)) hx hb hts in_X4_startAtIdentity_X4 hown hK hM (hrn) rfl 4 (by decide) (hts (.fieldLink RX4 25 "LimbCurves$RunningSum" "z" "[I") (by decide +kernel)) (fun _ h9 => h9) rfl dX4_startAtIdentity_6 ?_
  refine lv_iconst (v := nI 1) hx hb dX4_startAtIdentity_9 (by decide) ?_
  refine r_Sv (As := [.ref (h + 64), .int (nI 1)]) (rest := []) C hM hS (c_set l D kA N0 (xset M (h + 61) (oRn h (nI 1))) (h + 64) L fz (nI 1) hz hL0 (by omega)) gX4_startAtIdentity_X1_set rfl rfl rfl ⟨by decide +kernel, by decide +kernel, (by decide +kernel : (parseMethodDescriptor yX1_set.desc).map (fun d => d.parameters.length) = some 2)⟩ ⟨Nat.le_of_ble_eq_true rfl, Nat.le_of_ble_eq_true rfl⟩ hl.1 rfl (Nat.le_of_ble_eq_true rfl) dX4_startAtIdentity_10 ⟨Nat.le_of_ble_eq_true rfl, Nat.le_of_ble_eq_true rfl⟩ (fun M1 H locs hp hM hS => ?_)
  obtain ⟨f, rfl, h1, h2⟩ := hp
  have hn : isN kA (xset (xset M (h + 61) (oRn h (nI 1))) (h + 64) (xI (kA 0) L f)) (h + 62 + 2) L 1 := ⟨f, xset_s, nn_set (by decide) h1 h2, by rw [V_set hL0 h1 h2]; rfl⟩
  have hg2 := (hg.less (gs' := [none, none, none, none, none, none, none, none, none]) (fun k v hk => by
    exfalso
    match k, hk with
    | 0, hk | 1, hk | 2, hk | 3, hk | 4, hk | 5, hk | 6, hk | 7, hk | 8, hk => cases hk
    | k + 9, hk => simp at hk)).st 2 (by decide) hn hpp (hg.wk.kept (xset_n (by omega))) (hg.sp.kept (xset_n (by omega))) (fun b h1 _ _ => xset_n h1)
  exact r_vret C hM hS (hg2) dX4_startAtIdentity_13
end RUN
