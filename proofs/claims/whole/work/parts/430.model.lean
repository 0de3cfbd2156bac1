theorem in_X6_isInfinity_X6 : ∀ w ∈ wsX60, w ∈ wsX6_isInfinity := by decide +kernel
theorem in_X6_limb_X6 : ∀ w ∈ wsX60, w ∈ wsX6_limb := by decide +kernel
theorem in_X6_limbsOf_X6 : ∀ w ∈ wsX60, w ∈ wsX6_limbsOf := by decide +kernel
theorem in_X6_open_X6 : ∀ w ∈ wsX60, w ∈ wsX6_open := by decide +kernel
theorem in_X6_state_X6 : ∀ w ∈ wsX60, w ∈ wsX6_state := by decide +kernel
theorem in_X6_stopFeeding_X6 : ∀ w ∈ wsX60, w ∈ wsX6_stopFeeding := by decide +kernel
theorem in_X6_written_X6 : ∀ w ∈ wsX60, w ∈ wsX6_written := by decide +kernel
def BS (S : St) : Int32 × Int32 × Int32 × Int32 := (nI S.L, nI S.sealed, fedV S, nI S.fl)
/-- what the model's slots hold -/
def Mf (L : Nat) (a b : Nat → Nat) (f : Nat → Int32) : Prop := ∀ s, s < 20 → Vw f (18 * s) L = a s ∧ (4 ≤ s → s < 12 → Vw f (18 * s + L) L = b s)
def Mz (pr : Nat → Nat) (z : Nat → Int32) : Prop := ∀ s, 4 ≤ s → s < 12 → z s = nI (pr s)
/-- the model's scratch rows -/
def Mw (kA : Nat → ClassId) (M : xM) (g : Nat) : Prop := (∃ F, M (g + 3) = some (xI (kA 0) 300 F) ∧ nn F 300) ∧ (∃ Z, M (g + 4) = some (xI (kA 1) 5 Z)) ∧ isA kA M (g + 5) 24 ∧ isA kA M (g + 6) 12 ∧ isA kA M (g + 7) 24
/-- the model holds the state S -/
def Mk (kA : Nat → ClassId) (M : xM) (g : Nat) (S : St) : Prop := (∃ us, M g = some (oMd g (BS S) us)) ∧ (∃ f, M (g + 1) = some (xI (kA 0) 360 f) ∧ nn f 360 ∧ Mf S.L S.a S.b f) ∧ (∃ z, M (g + 2) = some (xI (kA 1) 20 z) ∧ Mz S.pr z) ∧ Mw kA M g
section MKS
variable {kA : Nat → ClassId} {M0 M M' : xM} {g : Nat} {B : Int32 × Int32 × Int32 × Int32} {N : Nat → Nat} {Z : Nat → Int32} {S S' : St} {us : Int32}
theorem Mw.mz (h : Mw kA M g) (h0 : M g = some (oMd g B us)) : ∃ N Z, MZ kA M M g B N Z := by
  obtain ⟨⟨F, h1, h2⟩, ⟨Z, h3⟩, h5, h6, h7⟩ := h
  exact ⟨fun n => Vw F (10 * n) 10, Z, M, ⟨⟨us, h0⟩, ⟨F, h1, h2, fun n _ => rfl⟩, h5, h6, h7, fun _ _ _ _ _ _ => rfl⟩, h3, fun _ _ => rfl⟩
theorem MZ.mw (h : MZ kA M0 M g B N Z) : Mw kA M g := by
  have hz := h.z
  obtain ⟨M00, ⟨-, ⟨F, h2, h3, -⟩, h5, h6, h7, -⟩, -, -⟩ := h
  exact ⟨⟨F, h2, h3⟩, ⟨Z, hz⟩, h5, h6, h7⟩
theorem Mw.kept (h : Mw kA M g) (hk : ∀ b, g + 3 ≤ b → b ≤ g + 7 → M' b = M b) : Mw kA M' g := by
  obtain ⟨⟨F, h1, h2⟩, ⟨Z, h3⟩, ⟨u, h5⟩, ⟨v, h6⟩, ⟨q, h7⟩⟩ := h
  exact ⟨⟨F, by rw [hk _ (by omega) (by omega)]; exact h1, h2⟩, ⟨Z, by rw [hk _ (by omega) (by omega)]; exact h3⟩, ⟨u, by rw [hk _ (by omega) (by omega)]; exact h5⟩, ⟨v, by rw [hk _ (by omega) (by omega)]; exact h6⟩, ⟨q, by rw [hk _ (by omega) (by omega)]; exact h7⟩⟩
theorem Mk.fld (h : Mk kA M g S) (hB : B = BS S') (hL : S'.L = S.L) (ha : S'.a = S.a) (hb : S'.b = S.b) (hp : S'.pr = S.pr) : Mk kA (xset M g (oMd g B us)) g S' := by
  obtain ⟨-, ⟨f, h1, h2, h3⟩, ⟨z, h4, h5⟩, hw⟩ := h
  exact ⟨⟨us, by rw [xset_s, hB]⟩, ⟨f, by rw [xset_n (by omega)]; exact h1, h2, by rw [hL, ha, hb]; exact h3⟩, ⟨z, by rw [xset_n (by omega)]; exact h4, by rw [hp]; exact h5⟩, hw.kept (fun b b1 b2 => xset_n (by omega))⟩
/-- scratch was used, nothing else -/
theorem Mk.scr (h : Mk kA M g S) (hz : MZ kA M M' g (BS S) N Z) : Mk kA M' g S ∧ ∀ b, b < g ∨ g + 7 < b → M' b = M b := by
  obtain ⟨-, ⟨f, h1, h2, h3⟩, ⟨z, h4, h5⟩, hw⟩ := h
  exact ⟨⟨hz.ob, ⟨f, by rw [hz.fr (by omega)]; exact h1, h2, h3⟩, ⟨z, by rw [hz.fr (by omega)]; exact h4, h5⟩, hz.mw⟩, fun b hb => hz.fr (by omega)⟩
theorem Mf.put {L : Nat} {a b : Nat → Nat} {f f' : Nat → Int32} {x a' b' : Nat} (h : Mf L a b f) (hL : L ≤ 9) (hoff : ∀ q, q < 18 * x ∨ 18 * x + 18 ≤ q → f' q = f q) (h1 : Vw f' (18 * x) L = a') (h2 : 4 ≤ x → x < 12 → Vw f' (18 * x + L) L = b') : Mf L (un a x a') (un b x b') f' := by
  intro s hs
  by_cases q : s = x
  · subst q
    rw [un_s, un_s]
    exact ⟨h1, h2⟩
  · rw [un_n q, un_n q]
    obtain ⟨g1, g2⟩ := h s hs
    refine ⟨?_, fun k1 k2 => ?_⟩
    · rw [← g1]
      exact Vw_congr (fun j hj => hoff _ (by omega))
    · rw [← g2 k1 k2]
      exact Vw_congr (fun j hj => hoff _ (by omega))
theorem Mz.put {pr : Nat → Nat} {z : Nat → Int32} {x v : Nat} (h : Mz pr z) : Mz (un pr x v) (upd z x (nI v)) := by
  intro s h1 h2
  by_cases q : s = x
  · rw [q, un_s, pk_us]
  · rw [un_n q, pk_un q]
    exact h s h1 h2
theorem Mf.set {L : Nat} {a b : Nat → Nat} {f : Nat → Int32} (h : Mf L a b f) {s j : Nat} (nf : nn f 360) (hs : s < 20) (hL : L ≤ 9) (hj : j < L) : f (18 * s + j) = dgt (a s) j := by
  refine dgt_of (f := fun i => f (18 * s + i)) (fun i hi => nf _ (by omega)) ?_ hj
  rw [← Vw_V]
  exact (h s hs).1
theorem Mf.setb {L : Nat} {a b : Nat → Nat} {f : Nat → Int32} (h : Mf L a b f) {s j : Nat} (nf : nn f 360) (h4 : 4 ≤ s) (hs : s < 12) (hL : L ≤ 9) (hj : j < L) : f (18 * s + L + j) = dgt (b s) j := by
  refine dgt_of (f := fun i => f (18 * s + L + i)) (fun i hi => nf _ (by omega)) ?_ hj
  rw [← Vw_V]
  exact (h s (by omega)).2 h4 hs
theorem feed_Vw {f : Nat → Int32} {b L i : Nat} {w : Int32} (nf : ∀ j, j < L → 0 ≤ (f (b + j)).toInt) (hi : i < L) (hV : Vw f b L < BB ^ i) : Vw (upd f (b + i) w) b L = Vw f b L + dg w * BB ^ i := by
  rw [Vw_V] at hV
  rw [Vw_V, Vw_V f, ← feed_V nf hi hV]
  refine V_congr (fun j hj => ?_)
  by_cases q : j = i
  · rw [q, pk_us, pk_us]
  · rw [pk_un q, pk_un (by omega)]
end MKS
section NM14
variable {p : Program} {l : Launch} {e : Env} {R : Room} {s : State} {m : MethodId} {args : Array Value} {below : List Frame} {meth : Method} {c : Code} {Q : State → Prop} {cells slots : Nat} {ret : Option FieldType} {D : va_G} {kA : Nat → ClassId} {N0 : Nat}
theorem t_3 : (nI 3).toInt = 3 := by decide
theorem t_11 : (nI 11).toInt = 11 := by decide
theorem t_19 : (nI 19).toInt = 19 := by decide
set_option maxRecDepth 100000 in
theorem c6_isPoint (l : Launch) (D : va_G) (kA : Nat → ClassId) (N0 : Nat) (M : xM) (x : Int32) : cI l yX6_isPoint wsX6_isPoint (xR 0) [.int x] D kA N0 M (fun v M1 => M1 = M ∧ ((v = 1 ∧ isPo x) ∨ (v = 0 ∧ ¬ isPo x))) := by
  refine r_mZ (cc := cX6_isPoint) (maxL := 1) (by decide) rfl (Nat.le_of_ble_eq_true rfl) ?_
  intro p e s m below meth c ls A0 Qp C hM hnm hl hend
  obtain ⟨hx, hb, hml, hown, hts, hr, hlocks, hK, hN⟩ := _root_.id C
  have hS : va_S (xA N0) s.heap s.heap [] := va_S.rf
  have hl : lv_has ls 1 [(0, .int x)] := hl
  refine lv_iload_n hx hb dX6_isPoint_0 rfl (lv_at hl 0 rfl) ?_
  refine lv_iconst (v := nI 3) hx hb dX6_isPoint_1 (by decide) ?_
  refine lv_icmp_le (tgt := 15) hx hb dX6_isPoint_2 (by decide) (fun hc => ?_) (fun hc => ?_)
  · rw [ile, t_3] at hc
    refine lv_iconst (v := nI 0) hx hb dX6_isPoint_15 (by decide) ?_
    exact hend _ _ _ _ _ _ hM hS (by decide) (⟨rfl, Or.inr ⟨rfl, fun q => by omega⟩⟩) dX6_isPoint_16
  · rw [ile, t_3] at hc
    refine lv_iload_n hx hb dX6_isPoint_5 rfl (lv_at hl 0 rfl) ?_
    refine lv_bipush (v := nI 12) hx hb dX6_isPoint_6 (by decide) ?_
    refine lv_icmp_ge (tgt := 15) hx hb dX6_isPoint_8 (by decide) (fun hd => ?_) (fun hd => ?_)
    · rw [ile, t_12] at hd
      refine lv_iconst (v := nI 0) hx hb dX6_isPoint_15 (by decide) ?_
      exact hend _ _ _ _ _ _ hM hS (by decide) (⟨rfl, Or.inr ⟨rfl, fun q => by omega⟩⟩) dX6_isPoint_16
    · rw [ile, t_12] at hd
      refine lv_iconst (v := nI 1) hx hb dX6_isPoint_11 (by decide) ?_
      refine lv_goto (tgt := 16) hx hb dX6_isPoint_12 (by decide) ?_
      exact hend _ _ _ _ _ _ hM hS (by decide) (⟨rfl, Or.inl ⟨rfl, by omega⟩⟩) dX6_isPoint_16
set_option maxRecDepth 100000 in
theorem c6_isScalar (l : Launch) (D : va_G) (kA : Nat → ClassId) (N0 : Nat) (M : xM) (x : Int32) : cI l yX6_isScalar wsX6_isScalar (xR 0) [.int x] D kA N0 M (fun v M1 => M1 = M ∧ ((v = 1 ∧ isSc x) ∨ (v = 0 ∧ ¬ isSc x))) := by
  refine r_mZ (cc := cX6_isScalar) (maxL := 1) (by decide) rfl (Nat.le_of_ble_eq_true rfl) ?_
  intro p e s m below meth c ls A0 Qp C hM hnm hl hend
  obtain ⟨hx, hb, hml, hown, hts, hr, hlocks, hK, hN⟩ := _root_.id C
  have hS : va_S (xA N0) s.heap s.heap [] := va_S.rf
  have hl : lv_has ls 1 [(0, .int x)] := hl
  refine lv_iload_n hx hb dX6_isScalar_0 rfl (lv_at hl 0 rfl) ?_
  refine lv_bipush (v := nI 11) hx hb dX6_isScalar_1 (by decide) ?_
  refine lv_icmp_le (tgt := 16) hx hb dX6_isScalar_3 (by decide) (fun hc => ?_) (fun hc => ?_)
  · rw [ile, t_11] at hc
    refine lv_iconst (v := nI 0) hx hb dX6_isScalar_16 (by decide) ?_
    exact hend _ _ _ _ _ _ hM hS (by decide) (⟨rfl, Or.inr ⟨rfl, fun q => by omega⟩⟩) dX6_isScalar_17
  · rw [ile, t_11] at hc
    refine lv_iload_n hx hb dX6_isScalar_6 rfl (lv_at hl 0 rfl) ?_
    refine lv_bipush (v := nI 20) hx hb dX6_isScalar_7 (by decide) ?_
    refine lv_icmp_ge (tgt := 16) hx hb dX6_isScalar_9 (by decide) (fun hd => ?_) (fun hd => ?_)
    · rw [ile, t_20] at hd
      refine lv_iconst (v := nI 0) hx hb dX6_isScalar_16 (by decide) ?_
      exact hend _ _ _ _ _ _ hM hS (by decide) (⟨rfl, Or.inr ⟨rfl, fun q => by omega⟩⟩) dX6_isScalar_17
    · rw [ile, t_20] at hd
      refine lv_iconst (v := nI 1) hx hb dX6_isScalar_12 (by decide) ?_
      refine lv_goto (tgt := 17) hx hb dX6_isScalar_13 (by decide) ?_
      exact hend _ _ _ _ _ _ hM hS (by decide) (⟨rfl, Or.inl ⟨rfl, by omega⟩⟩) dX6_isScalar_17
set_option maxRecDepth 100000 in
theorem c6_limbsOf (l : Launch) (D : va_G) (kA : Nat → ClassId) (N0 : Nat) (M : xM) (g sl : Nat) (S : St) (us : Int32) (hob : M g = some (oMd g (BS S) us)) (hs : sl < 20) (hL : S.L ≤ 9) : cI l yX6_limbsOf wsX6_limbsOf (xR 1) [.ref g, .int (nI sl)] D kA N0 M (fun v M1 => M1 = M ∧ v = nI (lim S sl)) := by
  have ht := t_nI (n := sl) (by omega)
  refine r_mI (cc := cX6_limbsOf) (maxL := 2) (by decide) rfl (Nat.le_of_ble_eq_true rfl) ?_
  intro p e s m below meth c ls A0 Qp C hM hnm hl hend
  obtain ⟨hx, hb, hml, hown, hts, hr, hlocks, hK, hN⟩ := _root_.id C
  have hS : va_S (xA N0) s.heap s.heap [] := va_S.rf
  have hl : lv_has ls 2 [(0, .ref g), (1, .int (nI sl))] := hl
  refine lv_iload_n hx hb dX6_limbsOf_0 rfl (lv_at hl 1 rfl) ?_
  refine r_Si (As := [.int (nI sl)]) (rest := []) C hM hS (c6_isPoint l D kA N0 M (nI sl)) gX6_limbsOf_X6_isPoint rfl rfl rfl ⟨by decide +kernel, by decide +kernel, (by decide +kernel : (parseMethodDescriptor yX6_isPoint.desc).map (fun d => d.parameters.length) = some 1)⟩ ⟨Nat.le_of_ble_eq_true rfl, Nat.le_of_ble_eq_true rfl⟩ hl.1 rfl (Nat.le_of_ble_eq_true rfl) dX6_limbsOf_1 ⟨Nat.le_of_ble_eq_true rfl, Nat.le_of_ble_eq_true rfl⟩ (fun v M1 H locs hp hM hS => ?_)
  obtain ⟨eM, hv⟩ := hp
  rw [eM] at hM
  unfold lim at hend
  refine lv_if_eq (tgt := 16) hx hb dX6_limbsOf_4 (by decide) (fun hc => ?_) (fun hc => ?_)
  · have hn : ¬ (4 ≤ sl ∧ sl < 12) := by
      rcases hv with ⟨h1, h2⟩ | ⟨h1, h2⟩
      · rw [h1] at hc; exact absurd hc (by decide)
      · unfold isPo at h2; rw [ht] at h2; omega
    rw [if_neg hn] at hend
    refine lv_aload_n hx hb dX6_limbsOf_16 rfl (lv_at hl 0 rfl) ?_
    refine x_get (v := .int (nI S.L)) hx hb hts in_X6_limbsOf_X6 hown hK hM (hob) rfl 0 (by decide) (hts (.fieldLink RX6 36 "LimbCurvesModel" "limbs" "I") (by decide +kernel)) (fun _ h9 => h9) rfl dX6_limbsOf_17 ?_
    exact hend _ _ _ _ _ _ hM hS (⟨rfl, rfl⟩) dX6_limbsOf_20
  · have hn : 4 ≤ sl ∧ sl < 12 := by
      rcases hv with ⟨h1, h2⟩ | ⟨h1, h2⟩
      · unfold isPo at h2; rw [ht] at h2; omega
      · exact absurd h1 hc
    rw [if_pos hn] at hend
    refine lv_iconst (v := nI 2) hx hb dX6_limbsOf_7 (by decide) ?_
    refine lv_aload_n hx hb dX6_limbsOf_8 rfl (lv_at hl 0 rfl) ?_
    refine x_get (v := .int (nI S.L)) hx hb hts in_X6_limbsOf_X6 hown hK hM (hob) rfl 0 (by decide) (hts (.fieldLink RX6 36 "LimbCurvesModel" "limbs" "I") (by decide +kernel)) (fun _ h9 => h9) rfl dX6_limbsOf_9 ?_
    refine r_imulN C dX6_limbsOf_12 ?_
    refine lv_goto (tgt := 20) hx hb dX6_limbsOf_13 (by decide) ?_
    exact hend _ _ _ _ _ _ hM hS (⟨rfl, rfl⟩) dX6_limbsOf_20
set_option maxRecDepth 100000 in
theorem c6_stopFeeding (l : Launch) (D : va_G) (kA : Nat → ClassId) (N0 : Nat) (M : xM) (g : Nat) (S : St) (mk : Mk kA M g S) : cV l yX6_stopFeeding wsX6_stopFeeding (xR 0) [.ref g] D kA N0 M (fun M1 => Mk kA M1 g (mkS S.L S.a S.b S.pr S.sealed 20 0) ∧ ∀ b, b ≠ g → M1 b = M b) := by
  obtain ⟨us, hob⟩ := mk.1
  refine r_mV (cc := cX6_stopFeeding) (maxL := 1) (by decide) rfl (Nat.le_of_ble_eq_true rfl) ?_
  intro p e s m below meth c ls A0 Qp C hM hnm hl hend
  obtain ⟨hx, hb, hml, hown, hts, hr, hlocks, hK, hN⟩ := _root_.id C
  have hS : va_S (xA N0) s.heap s.heap [] := va_S.rf
  have hl : lv_has ls 1 [(0, .ref g)] := hl
  refine lv_aload_n hx hb dX6_stopFeeding_0 rfl (lv_at hl 0 rfl) ?_
  refine lv_iconst (v := (-1)) hx hb dX6_stopFeeding_1 (by decide) ?_
  refine x_put (v := .int (-1)) (ty := .int) hx hb hts in_X6_stopFeeding_X6 tyX6 tyX6_ok nmX6 hown hK hM hS (hob) rfl 4 (by decide) (hts (.fieldLink RX6 17 "LimbCurvesModel" "fed" "I") (by decide +kernel)) (fun _ h9 => h9) rfl (by decide +kernel) rfl rfl (Nat.le_of_ble_eq_true rfl) dX6_stopFeeding_2 (fun H locs hM hS => ?_)
  refine lv_aload_n hx hb dX6_stopFeeding_5 rfl (lv_at hl 0 rfl) ?_
  refine lv_iconst (v := nI 0) hx hb dX6_stopFeeding_6 (by decide) ?_
  refine x_put (v := .int (nI 0)) (ty := .int) hx hb hts in_X6_stopFeeding_X6 tyX6 tyX6_ok nmX6 hown hK hM hS (xset_s) rfl 5 (by decide) (hts (.fieldLink RX6 47 "LimbCurvesModel" "fedLimbs" "I") (by decide +kernel)) (fun _ h9 => h9) rfl (by decide +kernel) rfl rfl (Nat.le_of_ble_eq_true rfl) dX6_stopFeeding_7 (fun H locs hM hS => ?_)
  rw [xset_xset] at hM
  have hM : xW D vwCl N0 (xset M g (oMd g (nI S.L, nI S.sealed, -1, nI 0) us)) H := hM
  have mk1 : Mk kA (xset M g (oMd g (nI S.L, nI S.sealed, -1, nI 0) us)) g (mkS S.L S.a S.b S.pr S.sealed 20 0) := mk.fld rfl rfl rfl rfl rfl
  exact hend _ _ _ _ _ hM hS (⟨mk1, fun b hb => xset_n hb⟩) dX6_stopFeeding_10
set_option maxRecDepth 100000 in
theorem c6_written (l : Launch) (D : va_G) (kA : Nat → ClassId) (N0 : Nat) (M : xM) (g sl : Nat) (S : St) (mk : Mk kA M g S) (hs : sl < 20) : cV l yX6_written wsX6_written (xR 1) [.ref g, .int (nI sl)] D kA N0 M (fun M1 => Mk kA M1 g (endf S sl) ∧ ∀ b, b ≠ g → M1 b = M b) := by
  obtain ⟨us, hob⟩ := mk.1
  refine r_mV (cc := cX6_written) (maxL := 2) (by decide) rfl (Nat.le_of_ble_eq_true rfl) ?_
  intro p e s m below meth c ls A0 Qp C hM hnm hl hend
  obtain ⟨hx, hb, hml, hown, hts, hr, hlocks, hK, hN⟩ := _root_.id C
  have hS : va_S (xA N0) s.heap s.heap [] := va_S.rf
  have hl : lv_has ls 2 [(0, .ref g), (1, .int (nI sl))] := hl
  refine lv_aload_n hx hb dX6_written_0 rfl (lv_at hl 0 rfl) ?_
  refine x_get (v := .int (fedV S)) hx hb hts in_X6_written_X6 hown hK hM (hob) rfl 4 (by decide) (hts (.fieldLink RX6 17 "LimbCurvesModel" "fed" "I") (by decide +kernel)) (fun _ h9 => h9) rfl dX6_written_1 ?_
  refine lv_iload_n hx hb dX6_written_4 rfl (lv_at hl 1 rfl) ?_
  refine lv_icmp_ne (tgt := 12) hx hb dX6_written_5 (by decide) (fun hc => ?_) (fun hc => ?_)
  · have hn : S.fed ≠ sl := fun q => hc ((fedV_eq hs).mpr q)
    rw [endf_n hn] at hend
    exact hend _ _ _ _ _ hM hS (⟨mk, fun _ _ => rfl⟩) dX6_written_12
  · have hn : S.fed = sl := (fedV_eq hs).mp hc
    rw [endf_y hn] at hend
    refine lv_aload_n hx hb dX6_written_8 rfl (lv_at hl 0 rfl) ?_
    refine r_Vv (As := []) (rest := []) C hM hS (c6_stopFeeding l D kA N0 M g S mk) (hob) rfl gX6_written_X6_stopFeeding rfl rfl rfl ⟨rfl, by decide +kernel, by decide +kernel, (by decide +kernel : (parseMethodDescriptor yX6_stopFeeding.desc).map (fun d => d.parameters.length) = some 0)⟩ ⟨Nat.le_of_ble_eq_true rfl, Nat.le_of_ble_eq_true rfl⟩ hl.1 rfl (Nat.le_of_ble_eq_true rfl) dX6_written_9 ⟨Nat.le_of_ble_eq_true rfl, Nat.le_of_ble_eq_true rfl⟩ (fun M1 H locs hp hM hS => ?_)
    exact hend _ _ _ _ _ hM hS (hp) dX6_written_12
set_option maxRecDepth 100000 in
theorem c6_open (l : Launch) (D : va_G) (kA : Nat → ClassId) (N0 : Nat) (M : xM) (g : Nat) (S : St) (hsi : Si S) (mk : Mk kA M g S) : cI l yX6_open wsX6_open (xR 0) [.ref g] D kA N0 M (fun v M1 => v = (spOpen S).1 ∧ Mk kA M1 g (spOpen S).2 ∧ ∀ b, b < g ∨ g + 7 < b → M1 b = M b) := by
  obtain ⟨us, hob⟩ := mk.1
  have hsl := hsi.sl
  refine r_mZ (cc := cX6_open) (maxL := 2) (by decide) rfl (Nat.le_of_ble_eq_true rfl) ?_
  intro p e s m below meth c ls A0 Qp C hM hnm hl hend
  obtain ⟨hx, hb, hml, hown, hts, hr, hlocks, hK, hN⟩ := _root_.id C
  have hS : va_S (xA N0) s.heap s.heap [] := va_S.rf
  have hl : lv_has ls 2 [(0, .ref g)] := hl
  refine lv_aload_n hx hb dX6_open_0 rfl (lv_at hl 0 rfl) ?_
  refine x_get (v := .int (nI S.sealed)) hx hb hts in_X6_open_X6 hown hK hM (hob) rfl 3 (by decide) (hts (.fieldLink RX6 43 "LimbCurvesModel" "sealed" "Z") (by decide +kernel)) (fun _ h9 => h9) rfl dX6_open_1 ?_
  refine lv_istore_n (lv' := [(1, .int (nI S.sealed)), (0, .ref g)]) hx hb dX6_open_4 rfl hl (by decide) rfl (fun ls hl => ?_)
  refine lv_aload_n hx hb dX6_open_5 rfl (lv_at hl 1 rfl) ?_
  refine lv_iconst (v := nI 0) hx hb dX6_open_6 (by decide) ?_
  refine x_put (v := .int (nI 0)) (ty := .boolean) hx hb hts in_X6_open_X6 tyX6 tyX6_ok nmX6 hown hK hM hS (hob) rfl 3 (by decide) (hts (.fieldLink RX6 43 "LimbCurvesModel" "sealed" "Z") (by decide +kernel)) (fun _ h9 => h9) rfl (by decide +kernel) rfl rfl (Nat.le_of_ble_eq_true rfl) dX6_open_7 (fun H locs hM hS => ?_)
  have hM : xW D vwCl N0 (xset M g (oMd g (nI S.L, nI 0, fedV S, nI S.fl) us)) H := hM
  have mk1 : Mk kA (xset M g (oMd g (nI S.L, nI 0, fedV S, nI S.fl) us)) g (mkS S.L S.a S.b S.pr 0 S.fed S.fl) := mk.fld rfl rfl rfl rfl rfl
  have h01 : nI S.sealed = 0 ∨ nI S.sealed = 1 := by
    rcases Nat.le_one_iff_eq_zero_or_eq_one.mp hsl with q | q
    · exact Or.inl (by rw [q]; rfl)
    · exact Or.inr (by rw [q]; rfl)
  refine lv_iload_n hx hb dX6_open_10 rfl (lv_at hl 0 rfl) ?_
  exact hend _ _ _ _ _ _ hM hS (h01) (⟨rfl, mk1, fun b hb => xset_n (by omega)⟩) dX6_open_11
set_option maxRecDepth 100000 in
theorem c6_limb (l : Launch) (D : va_G) (kA : Nat → ClassId) (N0 : Nat) (M : xM) (g : Nat) (S : St) (k i : Int32) (hsi : Si S) (mk : Mk kA M g S) : cI l yX6_limb wsX6_limb (xR 2) [.ref g, .int k, .int i] D kA N0 M (fun v M1 => v = spLimb S k i ∧ M1 = M) := by
  obtain ⟨⟨us, hob⟩, ⟨f, hf, nf, hmf⟩, -, -⟩ := mk
  have hL0 := hsi.L1
  have hL9 := hsi.L9
  have hno : ¬ (isSl k ∧ 0 ≤ i.toInt ∧ i.toInt < lim S (ix k)) → (-1 : Int32) = spLimb S k i := fun q => by
    unfold spLimb
    rw [if_neg q]
  refine r_mI (cc := cX6_limb) (maxL := 3) (by decide) rfl (Nat.le_of_ble_eq_true rfl) ?_
  intro p e s m below meth c ls A0 Qp C hM hnm hl hend
  obtain ⟨hx, hb, hml, hown, hts, hr, hlocks, hK, hN⟩ := _root_.id C
  have hS : va_S (xA N0) s.heap s.heap [] := va_S.rf
  have hl : lv_has ls 3 [(0, .ref g), (1, .int k), (2, .int i)] := hl
  have hF : ∀ (v1 v2 : Int32) (H : Heap) (locs : List Loc) (ls : Array Slot), ¬ (isSl k ∧ 0 ≤ i.toInt ∧ i.toInt < lim S (ix k)) → xW D vwCl N0 M H → va_S (xA N0) s.heap H locs → lv_has ls 3 [(0, .ref g), (1, .int v1), (2, .int v2)] → W p l e (xR 2) s m A0 below meth c H locs 0 0 Qp (F0 m 23 ls []) := by
    intro v1 v2 H locs ls hq hM hS hl
    refine lv_iconst (v := (-1)) hx hb dX6_limb_23 (by decide) ?_
    exact hend _ _ _ _ _ _ hM hS (⟨hno hq, rfl⟩) dX6_limb_24
  refine lv_iload_n hx hb dX6_limb_0 rfl (lv_at hl 1 rfl) ?_
  refine lv_if_lt (tgt := 23) hx hb dX6_limb_1 (by decide) (fun hc => ?_) (fun hc => ?_)
  · rw [ilt, t_0] at hc
    exact hF _ _ _ _ ls (fun q => by omega) hM hS hl
  · rw [ilt, t_0] at hc
    refine lv_iload_n hx hb dX6_limb_4 rfl (lv_at hl 1 rfl) ?_
    refine lv_bipush (v := nI 19) hx hb dX6_limb_5 (by decide) ?_
    refine lv_icmp_gt (tgt := 23) hx hb dX6_limb_7 (by decide) (fun hc1 => ?_) (fun hc1 => ?_)
    · have hc1 : (nI 19).toInt < k.toInt := ilt.mp hc1
      rw [t_19] at hc1
      exact hF _ _ _ _ ls (fun q => by omega) hM hS hl
    · have hc1 : ¬ (nI 19).toInt < k.toInt := fun q => hc1 (ilt.mpr q)
      rw [t_19] at hc1
      have hn : isSl k := ⟨by omega, by omega⟩
      have hk20 := sl_ix hn
      have hke := ix_eq hn.1
      refine lv_iload_n hx hb dX6_limb_10 rfl (lv_at hl 2 rfl) ?_
      refine lv_if_lt (tgt := 23) hx hb dX6_limb_11 (by decide) (fun hc2 => ?_) (fun hc2 => ?_)
      · rw [ilt, t_0] at hc2
        exact hF _ _ _ _ ls (fun q => by omega) hM hS hl
      · rw [ilt, t_0] at hc2
        have hi0 : 0 ≤ i.toInt := by omega
        have hie := ix_eq hi0
        have hii := ix_int hi0
        have hl : lv_has ls 3 [(0, .ref g), (1, .int (nI (ix k))), (2, .int (nI (ix i)))] := by rw [← hke, ← hie]; exact hl
        have hlim : lim S (ix k) ≤ 18 := by unfold lim; split <;> omega
        have hib : ix i < 2147483648 := dg_lt i
        refine lv_iload_n hx hb dX6_limb_14 rfl (lv_at hl 2 rfl) ?_
        refine lv_aload_n hx hb dX6_limb_15 rfl (lv_at hl 0 rfl) ?_
        refine lv_iload_n hx hb dX6_limb_16 rfl (lv_at hl 1 rfl) ?_
        refine r_Vi (As := [.int (nI (ix k))]) (rest := [.int (nI (ix i))]) C hM hS (c6_limbsOf l D kA N0 M g (ix k) S us hob hk20 hL9) (hob) rfl gX6_limb_X6_limbsOf rfl rfl rfl ⟨rfl, by decide +kernel, by decide +kernel, (by decide +kernel : (parseMethodDescriptor yX6_limbsOf.desc).map (fun d => d.parameters.length) = some 1)⟩ ⟨Nat.le_of_ble_eq_true rfl, Nat.le_of_ble_eq_true rfl⟩ hl.1 rfl (Nat.le_of_ble_eq_true rfl) dX6_limb_17 ⟨Nat.le_of_ble_eq_true rfl, Nat.le_of_ble_eq_true rfl⟩ (fun v2 M2 H locs hp hM hS => ?_)
        obtain ⟨eM2, ev2⟩ := hp
        rw [eM2] at hM
        rw [ev2]
        refine r_icmp_ltN (tgt := 25) C (by omega) (by omega) dX6_limb_20 (by decide) (fun hc3 => ?_) (fun hc3 => ?_)
        · refine lv_aload_n hx hb dX6_limb_25 rfl (lv_at hl 0 rfl) ?_
          refine x_get (v := .ref (g + 1)) hx hb hts in_X6_limb_X6 hown hK hM (hob) rfl 1 (by decide) (hts (.fieldLink RX6 7 "LimbCurvesModel" "slots" "[I") (by decide +kernel)) (fun _ h9 => h9) rfl dX6_limb_26 ?_
          refine lv_bipush (v := nI 18) hx hb dX6_limb_29 (by decide) ?_
          refine lv_iload_n hx hb dX6_limb_31 rfl (lv_at hl 1 rfl) ?_
          refine r_imulN C dX6_limb_32 ?_
          refine lv_iload_n hx hb dX6_limb_33 rfl (lv_at hl 2 rfl) ?_
          refine r_iaddN C dX6_limb_34 ?_
          refine r_iald C hM (hf) rfl (by omega) (by omega) dX6_limb_35 ?_
          have hres : f (18 * ix k + ix i) = spLimb S k i := by
            unfold spLimb
            rw [if_pos ⟨hn, hi0, by omega⟩]
            by_cases q : ix i < S.L
            · rw [if_pos q]
              exact hmf.set nf hk20 hL9 q
            · rw [if_neg q]
              have hpo : 4 ≤ ix k ∧ ix k < 12 ∧ ix i < 2 * S.L := by
                unfold lim at hc3
                split at hc3 <;> omega
              have := hmf.setb (s := ix k) (j := ix i - S.L) nf hpo.1 hpo.2.1 hL9 (by omega)
              rw [show 18 * ix k + S.L + (ix i - S.L) = 18 * ix k + ix i by omega] at this
              exact this
          exact hend _ _ _ _ _ _ hM hS (⟨hres, rfl⟩) dX6_limb_36
        · exact hF _ _ _ _ ls (fun q => by omega) hM hS hl
set_option maxRecDepth 100000 in
theorem c6_isInfinity (l : Launch) (D : va_G) (kA : Nat → ClassId) (N0 : Nat) (M : xM) (g : Nat) (S : St) (x : Int32) (hsi : Si S) (mk : Mk kA M g S) : cI l yX6_isInfinity wsX6_isInfinity (xR 1) [.ref g, .int x] D kA N0 M (fun v M1 => v = spInf S x ∧ M1 = M) := by
  obtain ⟨⟨us, hob⟩, -, ⟨z, hz, hmz⟩, -⟩ := mk
  unfold spInf
  refine r_mZ (cc := cX6_isInfinity) (maxL := 2) (by decide) rfl (Nat.le_of_ble_eq_true rfl) ?_
  intro p e s m below meth c ls A0 Qp C hM hnm hl hend
  obtain ⟨hx, hb, hml, hown, hts, hr, hlocks, hK, hN⟩ := _root_.id C
  have hS : va_S (xA N0) s.heap s.heap [] := va_S.rf
  have hl : lv_has ls 2 [(0, .ref g), (1, .int x)] := hl
  refine lv_iload_n hx hb dX6_isInfinity_0 rfl (lv_at hl 1 rfl) ?_
  refine r_Si (As := [.int x]) (rest := []) C hM hS (c6_isPoint l D kA N0 M x) gX6_isInfinity_X6_isPoint rfl rfl rfl ⟨by decide +kernel, by decide +kernel, (by decide +kernel : (parseMethodDescriptor yX6_isPoint.desc).map (fun d => d.parameters.length) = some 1)⟩ ⟨Nat.le_of_ble_eq_true rfl, Nat.le_of_ble_eq_true rfl⟩ hl.1 rfl (Nat.le_of_ble_eq_true rfl) dX6_isInfinity_1 ⟨Nat.le_of_ble_eq_true rfl, Nat.le_of_ble_eq_true rfl⟩ (fun v M1 H locs hp hM hS => ?_)
  obtain ⟨eM, hv⟩ := hp
  rw [eM] at hM
  refine lv_if_eq (tgt := 20) hx hb dX6_isInfinity_4 (by decide) (fun hc1 => ?_) (fun hc1 => ?_)
  · have hn : ¬ isPo x := by
      rcases hv with ⟨h1, h2⟩ | ⟨h1, h2⟩
      · rw [h1] at hc1; exact absurd hc1 (by decide)
      · exact h2
    rw [if_neg (fun q => hn q.1)] at hend
    refine lv_iconst (v := nI 0) hx hb dX6_isInfinity_20 (by decide) ?_
    exact hend _ _ _ _ _ _ hM hS (by decide) (⟨rfl, rfl⟩) dX6_isInfinity_21
  · have hn : isPo x := by
      rcases hv with ⟨h1, h2⟩ | ⟨h1, h2⟩
      · exact h2
      · exact absurd h1 hc1
    have hxr := po_ix hn
    have hxe := ix_eq (x := x) (by omega)
    have hl : lv_has ls 2 [(0, .ref g), (1, .int (nI (ix x)))] := by rw [← hxe]; exact hl
    have hpb := hsi.prb (ix x)
    refine lv_aload_n hx hb dX6_isInfinity_7 rfl (lv_at hl 0 rfl) ?_
    refine x_get (v := .ref (g + 2)) hx hb hts in_X6_isInfinity_X6 hown hK hM (hob) rfl 2 (by decide) (hts (.fieldLink RX6 13 "LimbCurvesModel" "isPair" "[Z") (by decide +kernel)) (fun _ h9 => h9) rfl dX6_isInfinity_8 ?_
    refine lv_iload_n hx hb dX6_isInfinity_11 rfl (lv_at hl 1 rfl) ?_
    refine r_zald C hM (hz) rfl (by omega) (by omega) dX6_isInfinity_12 ?_
    rw [hmz _ hxr.1 hxr.2]
    refine r_if_neN (tgt := 20) C (by omega) dX6_isInfinity_13 (by decide) (fun hc2 => ?_) (fun hc2 => ?_)
    · rw [if_neg (fun q => by have := q.2; omega)] at hend
      refine lv_iconst (v := nI 0) hx hb dX6_isInfinity_20 (by decide) ?_
      exact hend _ _ _ _ _ _ hM hS (by decide) (⟨rfl, rfl⟩) dX6_isInfinity_21
    · rw [if_pos ⟨hn, by omega⟩] at hend
      refine lv_iconst (v := nI 1) hx hb dX6_isInfinity_16 (by decide) ?_
      refine lv_goto (tgt := 21) hx hb dX6_isInfinity_17 (by decide) ?_
      exact hend _ _ _ _ _ _ hM hS (by decide) (⟨rfl, rfl⟩) dX6_isInfinity_21
set_option maxRecDepth 100000 in
theorem c6_state (l : Launch) (D : va_G) (kA : Nat → ClassId) (N0 : Nat) (M : xM) (g : Nat) (S : St) (x : Int32) (hsi : Si S) (mk : Mk kA M g S) : cI l yX6_state wsX6_state (xR 0) [.ref g, .int x] D kA N0 M (fun v M1 => v = spState S x ∧ M1 = M) := by
  obtain ⟨⟨us, hob⟩, -, -, -⟩ := mk
  have hsl := hsi.sl
  unfold spState
  refine r_mI (cc := cX6_state) (maxL := 2) (by decide) rfl (Nat.le_of_ble_eq_true rfl) ?_
  intro p e s m below meth c ls A0 Qp C hM hnm hl hend
  obtain ⟨hx, hb, hml, hown, hts, hr, hlocks, hK, hN⟩ := _root_.id C
  have hS : va_S (xA N0) s.heap s.heap [] := va_S.rf
  have hl : lv_has ls 2 [(0, .ref g), (1, .int x)] := hl
  refine lv_iload_n hx hb dX6_state_0 rfl (lv_at hl 1 rfl) ?_
  refine lv_if_ne (tgt := 11) hx hb dX6_state_1 (by decide) (fun hc => ?_) (fun hc => ?_)
  · rw [if_neg hc] at hend
    refine lv_iload_n hx hb dX6_state_11 rfl (lv_at hl 1 rfl) ?_
    refine lv_iconst (v := nI 1) hx hb dX6_state_12 (by decide) ?_
    refine lv_icmp_ne (tgt := 31) hx hb dX6_state_13 (by decide) (fun hc1 => ?_) (fun hc1 => ?_)
    · rw [if_neg (show ¬ x = 1 from hc1)] at hend
      refine lv_iload_n hx hb dX6_state_31 rfl (lv_at hl 1 rfl) ?_
      refine lv_iconst (v := nI 2) hx hb dX6_state_32 (by decide) ?_
      refine lv_icmp_ne (tgt := 43) hx hb dX6_state_33 (by decide) (fun hc2 => ?_) (fun hc2 => ?_)
      · rw [if_neg (show ¬ x = 2 from hc2)] at hend
        refine lv_iload_n hx hb dX6_state_43 rfl (lv_at hl 1 rfl) ?_
        refine lv_iconst (v := nI 3) hx hb dX6_state_44 (by decide) ?_
        refine lv_icmp_ne (tgt := 55) hx hb dX6_state_45 (by decide) (fun hc3 => ?_) (fun hc3 => ?_)
        · rw [if_neg (show ¬ x = 3 from hc3)] at hend
          refine lv_iconst (v := (-1)) hx hb dX6_state_55 (by decide) ?_
          exact hend _ _ _ _ _ _ hM hS (⟨rfl, rfl⟩) dX6_state_56
        · rw [if_pos (show x = 3 from hc3)] at hend
          refine lv_aload_n hx hb dX6_state_48 rfl (lv_at hl 0 rfl) ?_
          refine x_get (v := .int (nI S.fl)) hx hb hts in_X6_state_X6 hown hK hM (hob) rfl 5 (by decide) (hts (.fieldLink RX6 47 "LimbCurvesModel" "fedLimbs" "I") (by decide +kernel)) (fun _ h9 => h9) rfl dX6_state_49 ?_
          refine lv_goto (tgt := 56) hx hb dX6_state_52 (by decide) ?_
          exact hend _ _ _ _ _ _ hM hS (⟨rfl, rfl⟩) dX6_state_56
      · rw [if_pos (show x = 2 from hc2)] at hend
        refine lv_aload_n hx hb dX6_state_36 rfl (lv_at hl 0 rfl) ?_
        refine x_get (v := .int (fedV S)) hx hb hts in_X6_state_X6 hown hK hM (hob) rfl 4 (by decide) (hts (.fieldLink RX6 17 "LimbCurvesModel" "fed" "I") (by decide +kernel)) (fun _ h9 => h9) rfl dX6_state_37 ?_
        refine lv_goto (tgt := 56) hx hb dX6_state_40 (by decide) ?_
        exact hend _ _ _ _ _ _ hM hS (⟨rfl, rfl⟩) dX6_state_56
    · rw [if_pos (show x = 1 from hc1)] at hend
      refine lv_aload_n hx hb dX6_state_16 rfl (lv_at hl 0 rfl) ?_
      refine x_get (v := .int (nI S.sealed)) hx hb hts in_X6_state_X6 hown hK hM (hob) rfl 3 (by decide) (hts (.fieldLink RX6 43 "LimbCurvesModel" "sealed" "Z") (by decide +kernel)) (fun _ h9 => h9) rfl dX6_state_17 ?_
      refine r_if_eqN (tgt := 27) C (by omega) dX6_state_20 (by decide) (fun hd => ?_) (fun hd => ?_)
      · rw [hd] at hend
        refine lv_iconst (v := nI 0) hx hb dX6_state_27 (by decide) ?_
        refine lv_goto (tgt := 56) hx hb dX6_state_28 (by decide) ?_
        exact hend _ _ _ _ _ _ hM hS (⟨rfl, rfl⟩) dX6_state_56
      · rw [show S.sealed = 1 by omega] at hend
        refine lv_iconst (v := nI 1) hx hb dX6_state_23 (by decide) ?_
        refine lv_goto (tgt := 56) hx hb dX6_state_24 (by decide) ?_
        exact hend _ _ _ _ _ _ hM hS (⟨rfl, rfl⟩) dX6_state_56
  · rw [if_pos (by exact hc)] at hend
    refine lv_aload_n hx hb dX6_state_4 rfl (lv_at hl 0 rfl) ?_
    refine x_get (v := .int (nI S.L)) hx hb hts in_X6_state_X6 hown hK hM (hob) rfl 0 (by decide) (hts (.fieldLink RX6 36 "LimbCurvesModel" "limbs" "I") (by decide +kernel)) (fun _ h9 => h9) rfl dX6_state_5 ?_
    refine lv_goto (tgt := 56) hx hb dX6_state_8 (by decide) ?_
    exact hend _ _ _ _ _ _ hM hS (⟨rfl, rfl⟩) dX6_state_56
end NM14
