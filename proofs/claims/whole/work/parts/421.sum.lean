theorem in_X6_sumPoints_X6 : ∀ w ∈ wsX60, w ∈ wsX6_sumPoints := by decide +kernel
theorem un9z {N N' : Nat → Nat} {to : Nat} (h : ∀ k, k ≠ to → (k < 9 ∨ 13 < k) → N' k = N k) : UN N N' to (N' to) := ⟨rfl, h⟩
section PSM
/-- chord and tangent, over numbers -/
def slEq (pp num w xa xb ya : Nat) (X Y : Nat) : Prop := ∃ sl x1 x2 y1 y2 : Nat, sl = num * w % pp ∧ x1 = sl * sl % pp ∧ x2 = (x1 + (pp - xa)) % pp ∧ X = (x2 + (pp - xb)) % pp ∧ y1 = (xa + (pp - X)) % pp ∧ y2 = y1 * sl % pp ∧ Y = (y2 + (pp - ya)) % pp
theorem slEq_r {k num w xa xb ya X Y : Nat} (h1 : xa ≤ k + 1) (h2 : xb ≤ k + 1) (h3 : ya ≤ k + 1) (h : slEq (k + 1) num w xa xb ya X Y) : fz k X = fz k num * fz k w * (fz k num * fz k w) - fz k xa - fz k xb ∧ fz k Y = fz k num * fz k w * (fz k xa - fz k X) - fz k ya := by
  obtain ⟨sl, x1, x2, y1, y2, e1, e2, e3, e4, e5, e6, e7⟩ := h
  have hX : X ≤ k + 1 := by rw [e4]; exact Nat.le_of_lt (Nat.mod_lt _ (by omega))
  have f1 : fz k sl = fz k num * fz k w := by rw [e1, fz_mul]
  have f4 : fz k X = fz k num * fz k w * (fz k num * fz k w) - fz k xa - fz k xb := by rw [e4, fz_sub h2, e3, fz_sub h1, e2, fz_mul, f1]
  refine ⟨f4, ?_⟩
  rw [e7, fz_sub h3, e6, fz_mul, e5, fz_sub hX, f1]
  grind
theorem zinv_n {k a : Nat} (h : a < k + 1) : zinv k (fz k a) = (inv? (k + 1) a).map (fz k) := by
  unfold zinv
  rw [fz_val, Nat.mod_eq_of_lt h]
theorem psum_no {k A xa ya xb yb o num : Nat} (hxa : xa < k + 1) (hxb : xb < k + 1) (ho : o < k + 1) (hc : (xa = xb ∧ fz k o = fz k ya + fz k yb ∧ o ≠ 0 ∧ fz k num = 3 * fz k xa * fz k xa + fz k A) ∨ (xa ≠ xb ∧ fz k o = fz k xb - fz k xa ∧ fz k num = fz k yb - fz k ya)) (hi : inv? (k + 1) o = none) : psum (fz k A) (some (fz k xa, fz k ya)) (some (fz k xb, fz k yb)) = none := by
  have hz := zinv_n ho
  rw [hi] at hz
  rcases hc with ⟨e1, e2, e3, -⟩ | ⟨e1, e2, -⟩
  · rw [← e1, psum_tan (by rw [← e2]; exact fun q => e3 ((fz_z ho).mp q)), ← e2, hz]
    rfl
  · rw [psum_chd (fun q => e1 (fz_inj hxa hxb q)), ← e2, hz]
    rfl
theorem psum_yes {k A xa ya xb yb o num w X Y : Nat} (hxa : xa < k + 1) (hya : ya < k + 1) (hxb : xb < k + 1) (ho : o < k + 1) (hc : (xa = xb ∧ fz k o = fz k ya + fz k yb ∧ o ≠ 0 ∧ fz k num = 3 * fz k xa * fz k xa + fz k A) ∨ (xa ≠ xb ∧ fz k o = fz k xb - fz k xa ∧ fz k num = fz k yb - fz k ya)) (hi : inv? (k + 1) o = some w) (hs : slEq (k + 1) num w xa xb ya X Y) : psum (fz k A) (some (fz k xa, fz k ya)) (some (fz k xb, fz k yb)) = some (some (fz k X, fz k Y)) := by
  have hz := zinv_n ho
  rw [hi] at hz
  have hz : zinv k (fz k o) = some (fz k w) := hz
  obtain ⟨f1, f2⟩ := slEq_r (Nat.le_of_lt hxa) (Nat.le_of_lt hxb) (Nat.le_of_lt hya) hs
  rcases hc with ⟨e1, e2, e3, e4⟩ | ⟨e1, e2, e4⟩
  · rw [← e1] at f1 ⊢
    rw [psum_tan (by rw [← e2]; exact fun q => e3 ((fz_z ho).mp q)), ← e2, hz]
    show some (some _) = _
    rw [← e4, ← f1, ← f2]
  · rw [psum_chd (fun q => e1 (fz_inj hxa hxb q)), ← e2, hz]
    show some (some _) = _
    rw [← e4, ← f1, ← f2]
end PSM
theorem PV.mv {k : Nat} {N N' : Nat → Nat} {Z Z' : Nat → Int32} {i j : Nat} {P : Pt k} (h : PV k N Z i P) (h1 : N' (20 + 2 * j) = N (20 + 2 * i)) (h2 : N' (20 + 2 * j + 1) = N (20 + 2 * i + 1)) (h3 : Z' j = Z i) : PV k N' Z' j P := by
  unfold PV at *
  rw [h1, h2, h3]
  exact h
section NM10
variable {p : Program} {l : Launch} {e : Env} {R : Room} {s : State} {m : MethodId} {args : Array Value} {below : List Frame} {meth : Method} {c : Code} {Q : State → Prop} {cells slots : Nat} {ret : Option FieldType} {D : va_G} {kA : Nat → ClassId} {N0 : Nat}
set_option maxRecDepth 100000 in
theorem c6_sumPoints (l : Launch) (D : va_G) (kA : Nat → ClassId) (N0 : Nat) (M0 M : xM) (g to a b k A : Nat) (B : Int32 × Int32 × Int32 × Int32) (N : Nat → Nat) (Z : Nat → Int32) (P Q : Pt k) (hz : MZ kA M0 M g B N Z) (hto : to < 5) (ha : a < 5) (hb5 : b < 5) (hP : PV k N Z a P) (hQ : PV k N Z b Q) (n_0 : N 0 = k + 1) (n_1 : N 1 = A) (h4 : N 4 = 1) (hA : A < k + 1) (hodd : (k + 1) % 2 = 1) (h3 : 3 < k + 1) (hp9 : k + 1 < BB ^ 9) : cI l yX6_sumPoints wsX6_sumPoints (xR 4) [.ref g, .int (nI to), .int (nI a), .int (nI b)] D kA N0 M (fun r M1 => ∃ N' Z', MZ kA M0 M1 g B N' Z' ∧ (∀ j, (j < 5 ∨ (13 < j ∧ j ≠ 20 + 2 * to ∧ j ≠ 20 + 2 * to + 1)) → N' j = N j) ∧ (∀ i, i ≠ to → Z' i = Z i) ∧ ((r = 1 ∧ ∃ S, psum (fz k A) P Q = some S ∧ PV k N' Z' to S) ∨ (r = 0 ∧ psum (fz k A) P Q = none))) := by
  obtain ⟨us, hob⟩ := hz.ob
  have hz4 := hz.z
  have hpp : 0 < k + 1 := Nat.succ_pos k
  refine r_mZ (cc := cX6_sumPoints) (maxL := 4) (by decide) rfl (Nat.le_of_ble_eq_true rfl) ?_
  intro p e s m below meth c ls A0 Qp C hM hnm hl hend
  obtain ⟨hx, hb, hml, hown, hts, hr, hlocks, hK, hN⟩ := _root_.id C
  have hS : va_S (xA N0) s.heap s.heap [] := va_S.rf
  have hl : lv_has ls 4 [(0, .ref g), (1, .int (nI to)), (2, .int (nI a)), (3, .int (nI b))] := hl
  refine lv_aload_n hx hb dX6_sumPoints_0 rfl (lv_at hl 0 rfl) ?_
  refine x_get (v := .ref (g + 4)) hx hb hts in_X6_sumPoints_X6 hown hK hM (hob) rfl 7 (by decide) (hts (.fieldLink RX6 24 "LimbCurvesModel" "isNothing" "[Z") (by decide +kernel)) (fun _ h9 => h9) rfl dX6_sumPoints_1 ?_
  refine lv_iload_n hx hb dX6_sumPoints_4 rfl (lv_at hl 2 rfl) ?_
  refine r_zald C hM (hz4) rfl (by omega) (by omega) dX6_sumPoints_5 ?_
  rcases hP with ⟨z1, eP⟩ | ⟨z1, bxa, bya, eP⟩
  · rw [z1]
    refine lv_if_ne (tgt := 18) hx hb dX6_sumPoints_6 (by decide) (fun hc => ?_) (fun hc => ?_)
    · refine lv_aload_n hx hb dX6_sumPoints_18 rfl (lv_at hl 0 rfl) ?_
      refine lv_iload_n hx hb dX6_sumPoints_19 rfl (lv_at hl 1 rfl) ?_
      refine lv_aload_n hx hb dX6_sumPoints_20 rfl (lv_at hl 0 rfl) ?_
      refine x_get (v := .ref (g + 4)) hx hb hts in_X6_sumPoints_X6 hown hK hM (hob) rfl 7 (by decide) (hts (.fieldLink RX6 24 "LimbCurvesModel" "isNothing" "[Z") (by decide +kernel)) (fun _ h9 => h9) rfl dX6_sumPoints_21 ?_
      refine lv_iload_n hx hb dX6_sumPoints_24 rfl (lv_at hl 2 rfl) ?_
      refine r_zald C hM (hz4) rfl (by omega) (by omega) dX6_sumPoints_25 ?_
      rw [z1]
      refine lv_if_eq (tgt := 33) hx hb dX6_sumPoints_26 (by decide) (fun hd => ?_) (fun hd => ?_)
      · exact absurd hd (by decide)
      · refine lv_iload_n hx hb dX6_sumPoints_29 rfl (lv_at hl 3 rfl) ?_
        refine lv_goto (tgt := 34) hx hb dX6_sumPoints_30 (by decide) ?_
        refine r_Vv (As := [.int (nI to), .int (nI b)]) (rest := []) C hM hS (c6_copyPoint l D kA N0 M0 M g to b B N Z hz hto hb5 hQ.z) (hob) rfl gX6_sumPoints_X6_copyPoint rfl rfl rfl ⟨rfl, by decide +kernel, by decide +kernel, (by decide +kernel : (parseMethodDescriptor yX6_copyPoint.desc).map (fun d => d.parameters.length) = some 2)⟩ ⟨Nat.le_of_ble_eq_true rfl, Nat.le_of_ble_eq_true rfl⟩ hl.1 rfl (Nat.le_of_ble_eq_true rfl) dX6_sumPoints_34 ⟨Nat.le_of_ble_eq_true rfl, Nat.le_of_ble_eq_true rfl⟩ (fun M1 H locs hp hM hS => ?_)
        obtain ⟨N', hz1, q1, q2, q3⟩ := hp
        refine lv_iconst (v := nI 1) hx hb dX6_sumPoints_37 (by decide) ?_
        exact hend _ _ _ _ _ _ hM hS (by decide) (⟨N', _, hz1, fun j hj => q3 j (by omega), fun i hi => pk_un hi, Or.inl ⟨rfl, Q, by rw [eP]; rfl, hQ.mv q1 q2 pk_us⟩⟩) dX6_sumPoints_38
    · first | exact absurd hc (by decide) | exact absurd (by decide) hc
  · rw [z1]
    refine lv_if_ne (tgt := 18) hx hb dX6_sumPoints_6 (by decide) (fun hc => ?_) (fun hc => ?_)
    · exact absurd rfl hc
    · refine lv_aload_n hx hb dX6_sumPoints_9 rfl (lv_at hl 0 rfl) ?_
      refine x_get (v := .ref (g + 4)) hx hb hts in_X6_sumPoints_X6 hown hK hM (hob) rfl 7 (by decide) (hts (.fieldLink RX6 24 "LimbCurvesModel" "isNothing" "[Z") (by decide +kernel)) (fun _ h9 => h9) rfl dX6_sumPoints_10 ?_
      refine lv_iload_n hx hb dX6_sumPoints_13 rfl (lv_at hl 3 rfl) ?_
      refine r_zald C hM (hz4) rfl (by omega) (by omega) dX6_sumPoints_14 ?_
      rcases hQ with ⟨z2, eQ⟩ | ⟨z2, bxb, byb, eQ⟩
      · rw [z2]
        refine lv_if_eq (tgt := 39) hx hb dX6_sumPoints_15 (by decide) (fun hd => ?_) (fun hd => ?_)
        · exact absurd hd (by decide)
        · refine lv_aload_n hx hb dX6_sumPoints_18 rfl (lv_at hl 0 rfl) ?_
          refine lv_iload_n hx hb dX6_sumPoints_19 rfl (lv_at hl 1 rfl) ?_
          refine lv_aload_n hx hb dX6_sumPoints_20 rfl (lv_at hl 0 rfl) ?_
          refine x_get (v := .ref (g + 4)) hx hb hts in_X6_sumPoints_X6 hown hK hM (hob) rfl 7 (by decide) (hts (.fieldLink RX6 24 "LimbCurvesModel" "isNothing" "[Z") (by decide +kernel)) (fun _ h9 => h9) rfl dX6_sumPoints_21 ?_
          refine lv_iload_n hx hb dX6_sumPoints_24 rfl (lv_at hl 2 rfl) ?_
          refine r_zald C hM (hz4) rfl (by omega) (by omega) dX6_sumPoints_25 ?_
          rw [z1]
          refine lv_if_eq (tgt := 33) hx hb dX6_sumPoints_26 (by decide) (fun hf => ?_) (fun hf => ?_)
          · refine lv_iload_n hx hb dX6_sumPoints_33 rfl (lv_at hl 2 rfl) ?_
            refine r_Vv (As := [.int (nI to), .int (nI a)]) (rest := []) C hM hS (c6_copyPoint l D kA N0 M0 M g to a B N Z hz hto ha (Or.inl z1)) (hob) rfl gX6_sumPoints_X6_copyPoint rfl rfl rfl ⟨rfl, by decide +kernel, by decide +kernel, (by decide +kernel : (parseMethodDescriptor yX6_copyPoint.desc).map (fun d => d.parameters.length) = some 2)⟩ ⟨Nat.le_of_ble_eq_true rfl, Nat.le_of_ble_eq_true rfl⟩ hl.1 rfl (Nat.le_of_ble_eq_true rfl) dX6_sumPoints_34 ⟨Nat.le_of_ble_eq_true rfl, Nat.le_of_ble_eq_true rfl⟩ (fun M1 H locs hp hM hS => ?_)
            obtain ⟨N', hz1, q1, q2, q3⟩ := hp
            have hP : PV k N Z a P := Or.inr ⟨z1, bxa, bya, eP⟩
            refine lv_iconst (v := nI 1) hx hb dX6_sumPoints_37 (by decide) ?_
            exact hend _ _ _ _ _ _ hM hS (by decide) (⟨N', _, hz1, fun j hj => q3 j (by omega), fun i hi => pk_un hi, Or.inl ⟨rfl, P, by rw [eQ]; exact psum_right P, hP.mv q1 q2 pk_us⟩⟩) dX6_sumPoints_38
          · exact absurd rfl hf
      · rw [z2]
        obtain ⟨xa, n_xa⟩ : ∃ q, N (20 + 2 * a) = q := ⟨_, rfl⟩
        obtain ⟨ya, n_ya⟩ : ∃ q, N (20 + 2 * a + 1) = q := ⟨_, rfl⟩
        obtain ⟨xb, n_xb⟩ : ∃ q, N (20 + 2 * b) = q := ⟨_, rfl⟩
        obtain ⟨yb, n_yb⟩ : ∃ q, N (20 + 2 * b + 1) = q := ⟨_, rfl⟩
        rw [n_xa] at bxa eP
        rw [n_ya] at bya eP
        rw [n_xb] at bxb eQ
        rw [n_yb] at byb eQ
        rw [eP, eQ] at hend
        obtain ⟨M00, hm, hz0, hf0⟩ := hz
        -- from the quotient on
        have hT : ∀ (Ni : Nat → Nat) (num o : Nat) (M1 : xM) (H : Heap) (locs : List Loc) (ls : Array Slot), MN kA M00 M1 g B Ni → (∀ j, (j < 5 ∨ 13 < j) → Ni j = N j) → Ni 5 = num → num < k + 1 → Ni 6 = o → o < k + 1 → ((xa = xb ∧ fz k o = fz k ya + fz k yb ∧ o ≠ 0 ∧ fz k num = 3 * fz k xa * fz k xa + fz k A) ∨ (xa ≠ xb ∧ fz k o = fz k xb - fz k xa ∧ fz k num = fz k yb - fz k ya)) → xW D vwCl N0 M1 H → va_S (xA N0) s.heap H locs → lv_has ls 4 [(0, .ref g), (1, .int (nI to)), (2, .int (nI a)), (3, .int (nI b))] → W p l e (xR 4) s m A0 below meth c H locs 0 0 Qp (F0 m 159 ls []) := by
          intro Ni num o M1 H locs ls hm hfr0 n_num b_num n_o b_o hcc hM hS hl
          obtain ⟨us1, hob1⟩ := hm.1
          have m_0 : Ni 0 = k + 1 := by rw [hfr0 0 (by omega)]; exact n_0
          have m_xa : Ni (20 + 2 * a) = xa := by rw [hfr0 _ (by omega)]; exact n_xa
          have m_ya : Ni (20 + 2 * a + 1) = ya := by rw [hfr0 _ (by omega)]; exact n_ya
          have m_xb : Ni (20 + 2 * b) = xb := by rw [hfr0 _ (by omega)]; exact n_xb
          have m_4 : Ni 4 = 1 := by rw [hfr0 _ (by omega)]; exact h4
          refine lv_aload_n hx hb dX6_sumPoints_159 rfl (lv_at hl 0 rfl) ?_
          refine lv_bipush (v := nI 7) hx hb dX6_sumPoints_160 (by decide) ?_
          refine lv_bipush (v := nI 6) hx hb dX6_sumPoints_162 (by decide) ?_
          refine lv_iconst (v := nI 0) hx hb dX6_sumPoints_164 (by decide) ?_
          refine r_Vi (As := [.int (nI 7), .int (nI 6), .int (nI 0)]) (rest := []) C hM hS (c6_inverseOdd l D kA N0 M00 M1 g 7 6 0 B Ni hm (by omega) (by omega) (by omega) (by omega) (by omega) (by omega) (by omega) (by omega) m_4 (by rw [m_0]; exact hodd) (by rw [m_0]; omega) (by rw [m_0]; exact hp9)) (hob1) rfl gX6_sumPoints_X6_inverseOdd rfl rfl rfl ⟨rfl, by decide +kernel, by decide +kernel, (by decide +kernel : (parseMethodDescriptor yX6_inverseOdd.desc).map (fun d => d.parameters.length) = some 3)⟩ ⟨Nat.le_of_ble_eq_true rfl, Nat.le_of_ble_eq_true rfl⟩ hl.1 rfl (Nat.le_of_ble_eq_true rfl) dX6_sumPoints_165 ⟨Nat.le_of_ble_eq_true rfl, Nat.le_of_ble_eq_true rfl⟩ (fun r M2 H locs hp hM hS => ?_)
          obtain ⟨N9, hm, fr9, hr⟩ := hp
          have un9 := un9z fr9
          rw [m_0, n_o] at hr
          have hfr : ∀ j, (j < 5 ∨ (13 < j ∧ j ≠ 20 + 2 * to ∧ j ≠ 20 + 2 * to + 1)) → N9 j = N j := fun j hj => by rw [fr9 j (by omega) (by omega)]; exact hfr0 j (by omega)
          rcases hr with ⟨er, hr⟩ | ⟨er, hr⟩
          · rw [er]
            obtain ⟨iv, n_iv⟩ : ∃ q, N9 7 = q := ⟨_, rfl⟩
            rw [n_iv] at hr
            have b_iv : iv < k + 1 := (inv_spec hr).1
            have n_num := un9.k n_num (by omega) (by omega)
            have n_o := un9.k n_o (by omega) (by omega)
            have m_0 := un9.k m_0 (by omega) (by omega)
            have m_xa := un9.k m_xa (by omega) (by omega)
            have m_ya := un9.k m_ya (by omega) (by omega)
            have m_xb := un9.k m_xb (by omega) (by omega)
            refine lv_if_ne (tgt := 173) hx hb dX6_sumPoints_168 (by decide) (fun hc => ?_) (fun hc => ?_)
            · refine lv_aload_n hx hb dX6_sumPoints_173 rfl (lv_at hl 0 rfl) ?_
              refine lv_iconst (v := nI 5) hx hb dX6_sumPoints_174 (by decide) ?_
              refine lv_iconst (v := nI 5) hx hb dX6_sumPoints_175 (by decide) ?_
              refine lv_bipush (v := nI 7) hx hb dX6_sumPoints_176 (by decide) ?_
              refine lv_iconst (v := nI 0) hx hb dX6_sumPoints_178 (by decide) ?_
              obtain ⟨us9, hob9⟩ := hm.1
              refine r_Vv (As := [.int (nI 5), .int (nI 5), .int (nI 7), .int (nI 0)]) (rest := []) C hM hS (c6_timesV l D kA N0 _ _ g 5 5 7 0 num iv (k + 1) B _ hm (by omega) (by omega) (by omega) (by omega) n_num n_iv m_0 hpp (by omega)) (hob9) rfl gX6_sumPoints_X6_times rfl rfl rfl ⟨rfl, by decide +kernel, by decide +kernel, (by decide +kernel : (parseMethodDescriptor yX6_times.desc).map (fun d => d.parameters.length) = some 4)⟩ ⟨Nat.le_of_ble_eq_true rfl, Nat.le_of_ble_eq_true rfl⟩ hl.1 rfl (Nat.le_of_ble_eq_true rfl) dX6_sumPoints_179 ⟨Nat.le_of_ble_eq_true rfl, Nat.le_of_ble_eq_true rfl⟩ (fun M1 H locs hp9 hM hS => ?_)
              obtain ⟨N9, hm, un9⟩ := hp9
              obtain ⟨w1, ew1⟩ : ∃ q, q = num * iv % (k + 1) := ⟨_, rfl⟩
              rw [← ew1] at un9
              have b_w1 : w1 < k + 1 := by rw [ew1]; exact Nat.mod_lt _ hpp
              have n_w1 := un9.1
              have m_0 := un9.k m_0 (by omega) (by omega)
              have n_o := un9.k n_o (by omega) (by omega)
              have n_iv := un9.k n_iv (by omega) (by omega)
              have m_xa := un9.k m_xa (by omega) (by omega)
              have m_ya := un9.k m_ya (by omega) (by omega)
              have m_xb := un9.k m_xb (by omega) (by omega)
              have hfr : ∀ j, (j < 5 ∨ (13 < j ∧ j ≠ 20 + 2 * to ∧ j ≠ 20 + 2 * to + 1)) → N9 j = N j := fun j hj => un9.k (hfr j hj) (by omega) (by omega)
              refine lv_aload_n hx hb dX6_sumPoints_182 rfl (lv_at hl 0 rfl) ?_
              refine lv_bipush (v := nI 7) hx hb dX6_sumPoints_183 (by decide) ?_
              refine lv_iconst (v := nI 5) hx hb dX6_sumPoints_185 (by decide) ?_
              refine lv_iconst (v := nI 5) hx hb dX6_sumPoints_186 (by decide) ?_
              refine lv_iconst (v := nI 0) hx hb dX6_sumPoints_187 (by decide) ?_
              obtain ⟨us9, hob9⟩ := hm.1
              refine r_Vv (As := [.int (nI 7), .int (nI 5), .int (nI 5), .int (nI 0)]) (rest := []) C hM hS (c6_timesV l D kA N0 _ _ g 7 5 5 0 w1 w1 (k + 1) B _ hm (by omega) (by omega) (by omega) (by omega) n_w1 n_w1 m_0 hpp (by omega)) (hob9) rfl gX6_sumPoints_X6_times rfl rfl rfl ⟨rfl, by decide +kernel, by decide +kernel, (by decide +kernel : (parseMethodDescriptor yX6_times.desc).map (fun d => d.parameters.length) = some 4)⟩ ⟨Nat.le_of_ble_eq_true rfl, Nat.le_of_ble_eq_true rfl⟩ hl.1 rfl (Nat.le_of_ble_eq_true rfl) dX6_sumPoints_188 ⟨Nat.le_of_ble_eq_true rfl, Nat.le_of_ble_eq_true rfl⟩ (fun M1 H locs hp9 hM hS => ?_)
              obtain ⟨N9, hm, un9⟩ := hp9
              obtain ⟨w2, ew2⟩ : ∃ q, q = w1 * w1 % (k + 1) := ⟨_, rfl⟩
              rw [← ew2] at un9
              have b_w2 : w2 < k + 1 := by rw [ew2]; exact Nat.mod_lt _ hpp
              have n_w2 := un9.1
              have m_0 := un9.k m_0 (by omega) (by omega)
              have n_w1 := un9.k n_w1 (by omega) (by omega)
              have n_o := un9.k n_o (by omega) (by omega)
              have m_xa := un9.k m_xa (by omega) (by omega)
              have m_ya := un9.k m_ya (by omega) (by omega)
              have m_xb := un9.k m_xb (by omega) (by omega)
              have hfr : ∀ j, (j < 5 ∨ (13 < j ∧ j ≠ 20 + 2 * to ∧ j ≠ 20 + 2 * to + 1)) → N9 j = N j := fun j hj => un9.k (hfr j hj) (by omega) (by omega)
              refine lv_aload_n hx hb dX6_sumPoints_191 rfl (lv_at hl 0 rfl) ?_
              refine lv_bipush (v := nI 7) hx hb dX6_sumPoints_192 (by decide) ?_
              refine lv_bipush (v := nI 7) hx hb dX6_sumPoints_194 (by decide) ?_
              refine lv_iload_n hx hb dX6_sumPoints_196 rfl (lv_at hl 2 rfl) ?_
              refine r_Si (As := [.int (nI a)]) (rest := [.int (nI 7), .int (nI 7), .ref g]) C hM hS (c6_x l D kA N0 _ a (by omega)) gX6_sumPoints_X6_x rfl rfl rfl ⟨by decide +kernel, by decide +kernel, (by decide +kernel : (parseMethodDescriptor yX6_x.desc).map (fun d => d.parameters.length) = some 1)⟩ ⟨Nat.le_of_ble_eq_true rfl, Nat.le_of_ble_eq_true rfl⟩ hl.1 rfl (Nat.le_of_ble_eq_true rfl) dX6_sumPoints_197 ⟨Nat.le_of_ble_eq_true rfl, Nat.le_of_ble_eq_true rfl⟩ (fun r9 M9 H locs hp9 hM hS => ?_)
              obtain ⟨er9, eM9⟩ := hp9
              rw [eM9] at hM
              rw [er9]
              refine lv_iconst (v := nI 0) hx hb dX6_sumPoints_200 (by decide) ?_
              obtain ⟨us9, hob9⟩ := hm.1
              refine r_Vv (As := [.int (nI 7), .int (nI 7), .int (nI (20 + 2 * a)), .int (nI 0)]) (rest := []) C hM hS (c6_differenceV l D kA N0 _ _ g 7 7 (20 + 2 * a) 0 w2 xa (k + 1) B _ hm (by omega) (by omega) (by omega) (by omega) n_w2 m_xa m_0 (by omega) (by omega) (b_w2) (bxa) hp9 (by omega)) (hob9) rfl gX6_sumPoints_X6_difference rfl rfl rfl ⟨rfl, by decide +kernel, by decide +kernel, (by decide +kernel : (parseMethodDescriptor yX6_difference.desc).map (fun d => d.parameters.length) = some 4)⟩ ⟨Nat.le_of_ble_eq_true rfl, Nat.le_of_ble_eq_true rfl⟩ hl.1 rfl (Nat.le_of_ble_eq_true rfl) dX6_sumPoints_201 ⟨Nat.le_of_ble_eq_true rfl, Nat.le_of_ble_eq_true rfl⟩ (fun M1 H locs hp9 hM hS => ?_)
              obtain ⟨N9, hm, un9⟩ := hp9
              obtain ⟨w3, ew3⟩ : ∃ q, q = (w2 + ((k + 1) - xa)) % (k + 1) := ⟨_, rfl⟩
              rw [← ew3] at un9
              have b_w3 : w3 < k + 1 := by rw [ew3]; exact Nat.mod_lt _ hpp
              have n_w3 := un9.1
              have m_0 := un9.k m_0 (by omega) (by omega)
              have n_w1 := un9.k n_w1 (by omega) (by omega)
              have n_o := un9.k n_o (by omega) (by omega)
              have m_xa := un9.k m_xa (by omega) (by omega)
              have m_ya := un9.k m_ya (by omega) (by omega)
              have m_xb := un9.k m_xb (by omega) (by omega)
              have hfr : ∀ j, (j < 5 ∨ (13 < j ∧ j ≠ 20 + 2 * to ∧ j ≠ 20 + 2 * to + 1)) → N9 j = N j := fun j hj => un9.k (hfr j hj) (by omega) (by omega)
              refine lv_aload_n hx hb dX6_sumPoints_204 rfl (lv_at hl 0 rfl) ?_
              refine lv_bipush (v := nI 7) hx hb dX6_sumPoints_205 (by decide) ?_
              refine lv_bipush (v := nI 7) hx hb dX6_sumPoints_207 (by decide) ?_
              refine lv_iload_n hx hb dX6_sumPoints_209 rfl (lv_at hl 3 rfl) ?_
              refine r_Si (As := [.int (nI b)]) (rest := [.int (nI 7), .int (nI 7), .ref g]) C hM hS (c6_x l D kA N0 _ b (by omega)) gX6_sumPoints_X6_x rfl rfl rfl ⟨by decide +kernel, by decide +kernel, (by decide +kernel : (parseMethodDescriptor yX6_x.desc).map (fun d => d.parameters.length) = some 1)⟩ ⟨Nat.le_of_ble_eq_true rfl, Nat.le_of_ble_eq_true rfl⟩ hl.1 rfl (Nat.le_of_ble_eq_true rfl) dX6_sumPoints_210 ⟨Nat.le_of_ble_eq_true rfl, Nat.le_of_ble_eq_true rfl⟩ (fun r9 M9 H locs hp9 hM hS => ?_)
              obtain ⟨er9, eM9⟩ := hp9
              rw [eM9] at hM
              rw [er9]
              refine lv_iconst (v := nI 0) hx hb dX6_sumPoints_213 (by decide) ?_
              obtain ⟨us9, hob9⟩ := hm.1
              refine r_Vv (As := [.int (nI 7), .int (nI 7), .int (nI (20 + 2 * b)), .int (nI 0)]) (rest := []) C hM hS (c6_differenceV l D kA N0 _ _ g 7 7 (20 + 2 * b) 0 w3 xb (k + 1) B _ hm (by omega) (by omega) (by omega) (by omega) n_w3 m_xb m_0 (by omega) (by omega) (b_w3) (bxb) hp9 (by omega)) (hob9) rfl gX6_sumPoints_X6_difference rfl rfl rfl ⟨rfl, by decide +kernel, by decide +kernel, (by decide +kernel : (parseMethodDescriptor yX6_difference.desc).map (fun d => d.parameters.length) = some 4)⟩ ⟨Nat.le_of_ble_eq_true rfl, Nat.le_of_ble_eq_true rfl⟩ hl.1 rfl (Nat.le_of_ble_eq_true rfl) dX6_sumPoints_214 ⟨Nat.le_of_ble_eq_true rfl, Nat.le_of_ble_eq_true rfl⟩ (fun M1 H locs hp9 hM hS => ?_)
              obtain ⟨N9, hm, un9⟩ := hp9
              obtain ⟨w4, ew4⟩ : ∃ q, q = (w3 + ((k + 1) - xb)) % (k + 1) := ⟨_, rfl⟩
              rw [← ew4] at un9
              have b_w4 : w4 < k + 1 := by rw [ew4]; exact Nat.mod_lt _ hpp
              have n_w4 := un9.1
              have m_0 := un9.k m_0 (by omega) (by omega)
              have n_w1 := un9.k n_w1 (by omega) (by omega)
              have n_o := un9.k n_o (by omega) (by omega)
              have m_xa := un9.k m_xa (by omega) (by omega)
              have m_ya := un9.k m_ya (by omega) (by omega)
              have m_xb := un9.k m_xb (by omega) (by omega)
              have hfr : ∀ j, (j < 5 ∨ (13 < j ∧ j ≠ 20 + 2 * to ∧ j ≠ 20 + 2 * to + 1)) → N9 j = N j := fun j hj => un9.k (hfr j hj) (by omega) (by omega)
              refine lv_aload_n hx hb dX6_sumPoints_217 rfl (lv_at hl 0 rfl) ?_
              refine lv_bipush (v := nI 6) hx hb dX6_sumPoints_218 (by decide) ?_
              refine lv_iload_n hx hb dX6_sumPoints_220 rfl (lv_at hl 2 rfl) ?_
              refine r_Si (As := [.int (nI a)]) (rest := [.int (nI 6), .ref g]) C hM hS (c6_x l D kA N0 _ a (by omega)) gX6_sumPoints_X6_x rfl rfl rfl ⟨by decide +kernel, by decide +kernel, (by decide +kernel : (parseMethodDescriptor yX6_x.desc).map (fun d => d.parameters.length) = some 1)⟩ ⟨Nat.le_of_ble_eq_true rfl, Nat.le_of_ble_eq_true rfl⟩ hl.1 rfl (Nat.le_of_ble_eq_true rfl) dX6_sumPoints_221 ⟨Nat.le_of_ble_eq_true rfl, Nat.le_of_ble_eq_true rfl⟩ (fun r9 M9 H locs hp9 hM hS => ?_)
              obtain ⟨er9, eM9⟩ := hp9
              rw [eM9] at hM
              rw [er9]
              refine lv_bipush (v := nI 7) hx hb dX6_sumPoints_224 (by decide) ?_
              refine lv_iconst (v := nI 0) hx hb dX6_sumPoints_226 (by decide) ?_
              obtain ⟨us9, hob9⟩ := hm.1
              refine r_Vv (As := [.int (nI 6), .int (nI (20 + 2 * a)), .int (nI 7), .int (nI 0)]) (rest := []) C hM hS (c6_differenceV l D kA N0 _ _ g 6 (20 + 2 * a) 7 0 xa w4 (k + 1) B _ hm (by omega) (by omega) (by omega) (by omega) m_xa n_w4 m_0 (by omega) (by omega) (bxa) (b_w4) hp9 (by omega)) (hob9) rfl gX6_sumPoints_X6_difference rfl rfl rfl ⟨rfl, by decide +kernel, by decide +kernel, (by decide +kernel : (parseMethodDescriptor yX6_difference.desc).map (fun d => d.parameters.length) = some 4)⟩ ⟨Nat.le_of_ble_eq_true rfl, Nat.le_of_ble_eq_true rfl⟩ hl.1 rfl (Nat.le_of_ble_eq_true rfl) dX6_sumPoints_227 ⟨Nat.le_of_ble_eq_true rfl, Nat.le_of_ble_eq_true rfl⟩ (fun M1 H locs hp9 hM hS => ?_)
              obtain ⟨N9, hm, un9⟩ := hp9
              obtain ⟨w5, ew5⟩ : ∃ q, q = (xa + ((k + 1) - w4)) % (k + 1) := ⟨_, rfl⟩
              rw [← ew5] at un9
              have b_w5 : w5 < k + 1 := by rw [ew5]; exact Nat.mod_lt _ hpp
              have n_w5 := un9.1
              have m_0 := un9.k m_0 (by omega) (by omega)
              have n_w1 := un9.k n_w1 (by omega) (by omega)
              have n_w4 := un9.k n_w4 (by omega) (by omega)
              have m_xa := un9.k m_xa (by omega) (by omega)
              have m_ya := un9.k m_ya (by omega) (by omega)
              have m_xb := un9.k m_xb (by omega) (by omega)
              have hfr : ∀ j, (j < 5 ∨ (13 < j ∧ j ≠ 20 + 2 * to ∧ j ≠ 20 + 2 * to + 1)) → N9 j = N j := fun j hj => un9.k (hfr j hj) (by omega) (by omega)
              refine lv_aload_n hx hb dX6_sumPoints_230 rfl (lv_at hl 0 rfl) ?_
              refine lv_bipush (v := nI 6) hx hb dX6_sumPoints_231 (by decide) ?_
              refine lv_bipush (v := nI 6) hx hb dX6_sumPoints_233 (by decide) ?_
              refine lv_iconst (v := nI 5) hx hb dX6_sumPoints_235 (by decide) ?_
              refine lv_iconst (v := nI 0) hx hb dX6_sumPoints_236 (by decide) ?_
              obtain ⟨us9, hob9⟩ := hm.1
              refine r_Vv (As := [.int (nI 6), .int (nI 6), .int (nI 5), .int (nI 0)]) (rest := []) C hM hS (c6_timesV l D kA N0 _ _ g 6 6 5 0 w5 w1 (k + 1) B _ hm (by omega) (by omega) (by omega) (by omega) n_w5 n_w1 m_0 hpp (by omega)) (hob9) rfl gX6_sumPoints_X6_times rfl rfl rfl ⟨rfl, by decide +kernel, by decide +kernel, (by decide +kernel : (parseMethodDescriptor yX6_times.desc).map (fun d => d.parameters.length) = some 4)⟩ ⟨Nat.le_of_ble_eq_true rfl, Nat.le_of_ble_eq_true rfl⟩ hl.1 rfl (Nat.le_of_ble_eq_true rfl) dX6_sumPoints_237 ⟨Nat.le_of_ble_eq_true rfl, Nat.le_of_ble_eq_true rfl⟩ (fun M1 H locs hp9 hM hS => ?_)
              obtain ⟨N9, hm, un9⟩ := hp9
              obtain ⟨w6, ew6⟩ : ∃ q, q = w5 * w1 % (k + 1) := ⟨_, rfl⟩
              rw [← ew6] at un9
              have b_w6 : w6 < k + 1 := by rw [ew6]; exact Nat.mod_lt _ hpp
              have n_w6 := un9.1
              have m_0 := un9.k m_0 (by omega) (by omega)
              have n_w1 := un9.k n_w1 (by omega) (by omega)
              have n_w4 := un9.k n_w4 (by omega) (by omega)
              have m_xa := un9.k m_xa (by omega) (by omega)
              have m_ya := un9.k m_ya (by omega) (by omega)
              have m_xb := un9.k m_xb (by omega) (by omega)
              have hfr : ∀ j, (j < 5 ∨ (13 < j ∧ j ≠ 20 + 2 * to ∧ j ≠ 20 + 2 * to + 1)) → N9 j = N j := fun j hj => un9.k (hfr j hj) (by omega) (by omega)
              refine lv_aload_n hx hb dX6_sumPoints_240 rfl (lv_at hl 0 rfl) ?_
              refine lv_bipush (v := nI 6) hx hb dX6_sumPoints_241 (by decide) ?_
              refine lv_bipush (v := nI 6) hx hb dX6_sumPoints_243 (by decide) ?_
              refine lv_iload_n hx hb dX6_sumPoints_245 rfl (lv_at hl 2 rfl) ?_
              refine r_Si (As := [.int (nI a)]) (rest := [.int (nI 6), .int (nI 6), .ref g]) C hM hS (c6_y l D kA N0 _ a (by omega)) gX6_sumPoints_X6_y rfl rfl rfl ⟨by decide +kernel, by decide +kernel, (by decide +kernel : (parseMethodDescriptor yX6_y.desc).map (fun d => d.parameters.length) = some 1)⟩ ⟨Nat.le_of_ble_eq_true rfl, Nat.le_of_ble_eq_true rfl⟩ hl.1 rfl (Nat.le_of_ble_eq_true rfl) dX6_sumPoints_246 ⟨Nat.le_of_ble_eq_true rfl, Nat.le_of_ble_eq_true rfl⟩ (fun r9 M9 H locs hp9 hM hS => ?_)
              obtain ⟨er9, eM9⟩ := hp9
              rw [eM9] at hM
              rw [er9]
              refine lv_iconst (v := nI 0) hx hb dX6_sumPoints_249 (by decide) ?_
              obtain ⟨us9, hob9⟩ := hm.1
              refine r_Vv (As := [.int (nI 6), .int (nI 6), .int (nI (20 + 2 * a + 1)), .int (nI 0)]) (rest := []) C hM hS (c6_differenceV l D kA N0 _ _ g 6 6 (20 + 2 * a + 1) 0 w6 ya (k + 1) B _ hm (by omega) (by omega) (by omega) (by omega) n_w6 m_ya m_0 (by omega) (by omega) (b_w6) (bya) hp9 (by omega)) (hob9) rfl gX6_sumPoints_X6_difference rfl rfl rfl ⟨rfl, by decide +kernel, by decide +kernel, (by decide +kernel : (parseMethodDescriptor yX6_difference.desc).map (fun d => d.parameters.length) = some 4)⟩ ⟨Nat.le_of_ble_eq_true rfl, Nat.le_of_ble_eq_true rfl⟩ hl.1 rfl (Nat.le_of_ble_eq_true rfl) dX6_sumPoints_250 ⟨Nat.le_of_ble_eq_true rfl, Nat.le_of_ble_eq_true rfl⟩ (fun M1 H locs hp9 hM hS => ?_)
              obtain ⟨N9, hm, un9⟩ := hp9
              obtain ⟨w7, ew7⟩ : ∃ q, q = (w6 + ((k + 1) - ya)) % (k + 1) := ⟨_, rfl⟩
              rw [← ew7] at un9
              have b_w7 : w7 < k + 1 := by rw [ew7]; exact Nat.mod_lt _ hpp
              have n_w7 := un9.1
              have m_0 := un9.k m_0 (by omega) (by omega)
              have n_w1 := un9.k n_w1 (by omega) (by omega)
              have n_w4 := un9.k n_w4 (by omega) (by omega)
              have m_xa := un9.k m_xa (by omega) (by omega)
              have m_ya := un9.k m_ya (by omega) (by omega)
              have m_xb := un9.k m_xb (by omega) (by omega)
              have hfr : ∀ j, (j < 5 ∨ (13 < j ∧ j ≠ 20 + 2 * to ∧ j ≠ 20 + 2 * to + 1)) → N9 j = N j := fun j hj => un9.k (hfr j hj) (by omega) (by omega)
              refine lv_aload_n hx hb dX6_sumPoints_253 rfl (lv_at hl 0 rfl) ?_
              have hsl : slEq (k + 1) num iv xa xb ya w4 w7 := ⟨w1, w2, w3, w5, w6, ew1, ew2, ew3, ew4, ew5, ew6, ew7⟩
              have hy := psum_yes (A := A) bxa bya bxb b_o hcc hr hsl
              obtain ⟨us9, hob9⟩ := hm.1
              have hz9 := hm.at4 (b := g + 4) (by omega) (by omega) (by omega) (by omega) (by omega)
              rw [hz0] at hz9
              refine x_get (v := .ref (g + 4)) hx hb hts in_X6_sumPoints_X6 hown hK hM (hob9) rfl 7 (by decide) (hts (.fieldLink RX6 24 "LimbCurvesModel" "isNothing" "[Z") (by decide +kernel)) (fun _ h9 => h9) rfl dX6_sumPoints_254 ?_
              refine lv_iload_n hx hb dX6_sumPoints_257 rfl (lv_at hl 1 rfl) ?_
              refine lv_iconst (v := nI 0) hx hb dX6_sumPoints_258 (by decide) ?_
              refine r_zast C hM hS (hz9) rfl (by omega) (by omega) rfl dX6_sumPoints_259 (fun H locs hM hS => ?_)
              have hm := hm.z4 (xI (kA 1) 5 (upd Z to (nI 0)))
              refine lv_aload_n hx hb dX6_sumPoints_260 rfl (lv_at hl 0 rfl) ?_
              refine lv_iload_n hx hb dX6_sumPoints_261 rfl (lv_at hl 1 rfl) ?_
              refine r_Si (As := [.int (nI to)]) (rest := [.ref g]) C hM hS (c6_x l D kA N0 _ to (by omega)) gX6_sumPoints_X6_x rfl rfl rfl ⟨by decide +kernel, by decide +kernel, (by decide +kernel : (parseMethodDescriptor yX6_x.desc).map (fun d => d.parameters.length) = some 1)⟩ ⟨Nat.le_of_ble_eq_true rfl, Nat.le_of_ble_eq_true rfl⟩ hl.1 rfl (Nat.le_of_ble_eq_true rfl) dX6_sumPoints_262 ⟨Nat.le_of_ble_eq_true rfl, Nat.le_of_ble_eq_true rfl⟩ (fun r9 M9 H locs hp9 hM hS => ?_)
              obtain ⟨er9, eM9⟩ := hp9
              rw [eM9] at hM
              rw [er9]
              refine lv_bipush (v := nI 7) hx hb dX6_sumPoints_265 (by decide) ?_
              obtain ⟨us9, hob9⟩ := hm.1
              refine r_Vv (As := [.int (nI (20 + 2 * to)), .int (nI 7)]) (rest := []) C hM hS (c6_copyV l D kA N0 _ _ g (20 + 2 * to) 7 w4 B _ hm (by omega) (by omega) n_w4 (by omega)) (hob9) rfl gX6_sumPoints_X6_copy rfl rfl rfl ⟨rfl, by decide +kernel, by decide +kernel, (by decide +kernel : (parseMethodDescriptor yX6_copy.desc).map (fun d => d.parameters.length) = some 2)⟩ ⟨Nat.le_of_ble_eq_true rfl, Nat.le_of_ble_eq_true rfl⟩ hl.1 rfl (Nat.le_of_ble_eq_true rfl) dX6_sumPoints_267 ⟨Nat.le_of_ble_eq_true rfl, Nat.le_of_ble_eq_true rfl⟩ (fun M1 H locs hp9 hM hS => ?_)
              obtain ⟨N9, hm, un9⟩ := hp9
              obtain ⟨w8, ew8⟩ : ∃ q, q = w4 := ⟨_, rfl⟩
              rw [← ew8] at un9
              have b_w8 : w8 < k + 1 := by rw [ew8]; exact b_w4
              have n_w8 := un9.1
              have n_w7 := un9.k n_w7 (by omega) (by omega)
              have n_w4 := un9.k n_w4 (by omega) (by omega)
              have hfr : ∀ j, (j < 5 ∨ (13 < j ∧ j ≠ 20 + 2 * to ∧ j ≠ 20 + 2 * to + 1)) → N9 j = N j := fun j hj => un9.k (hfr j hj) (by omega) (by omega)
              refine lv_aload_n hx hb dX6_sumPoints_270 rfl (lv_at hl 0 rfl) ?_
              refine lv_iload_n hx hb dX6_sumPoints_271 rfl (lv_at hl 1 rfl) ?_
              refine r_Si (As := [.int (nI to)]) (rest := [.ref g]) C hM hS (c6_y l D kA N0 _ to (by omega)) gX6_sumPoints_X6_y rfl rfl rfl ⟨by decide +kernel, by decide +kernel, (by decide +kernel : (parseMethodDescriptor yX6_y.desc).map (fun d => d.parameters.length) = some 1)⟩ ⟨Nat.le_of_ble_eq_true rfl, Nat.le_of_ble_eq_true rfl⟩ hl.1 rfl (Nat.le_of_ble_eq_true rfl) dX6_sumPoints_272 ⟨Nat.le_of_ble_eq_true rfl, Nat.le_of_ble_eq_true rfl⟩ (fun r9 M9 H locs hp9 hM hS => ?_)
              obtain ⟨er9, eM9⟩ := hp9
              rw [eM9] at hM
              rw [er9]
              refine lv_bipush (v := nI 6) hx hb dX6_sumPoints_275 (by decide) ?_
              obtain ⟨us9, hob9⟩ := hm.1
              refine r_Vv (As := [.int (nI (20 + 2 * to + 1)), .int (nI 6)]) (rest := []) C hM hS (c6_copyV l D kA N0 _ _ g (20 + 2 * to + 1) 6 w7 B _ hm (by omega) (by omega) n_w7 (by omega)) (hob9) rfl gX6_sumPoints_X6_copy rfl rfl rfl ⟨rfl, by decide +kernel, by decide +kernel, (by decide +kernel : (parseMethodDescriptor yX6_copy.desc).map (fun d => d.parameters.length) = some 2)⟩ ⟨Nat.le_of_ble_eq_true rfl, Nat.le_of_ble_eq_true rfl⟩ hl.1 rfl (Nat.le_of_ble_eq_true rfl) dX6_sumPoints_277 ⟨Nat.le_of_ble_eq_true rfl, Nat.le_of_ble_eq_true rfl⟩ (fun M1 H locs hp9 hM hS => ?_)
              obtain ⟨N9, hm, un9⟩ := hp9
              obtain ⟨w9, ew9⟩ : ∃ q, q = w7 := ⟨_, rfl⟩
              rw [← ew9] at un9
              have b_w9 : w9 < k + 1 := by rw [ew9]; exact b_w7
              have n_w9 := un9.1
              have n_w7 := un9.k n_w7 (by omega) (by omega)
              have n_w4 := un9.k n_w4 (by omega) (by omega)
              have n_w8 := un9.k n_w8 (by omega) (by omega)
              have hfr : ∀ j, (j < 5 ∨ (13 < j ∧ j ≠ 20 + 2 * to ∧ j ≠ 20 + 2 * to + 1)) → N9 j = N j := fun j hj => un9.k (hfr j hj) (by omega) (by omega)
              refine lv_iconst (v := nI 1) hx hb dX6_sumPoints_280 (by decide) ?_
              exact hend _ _ _ _ _ _ hM hS (by decide) (⟨_, _, ⟨_, hm, xset_s, fun b9 hb9 => by rw [xset_n hb9]; exact hf0 b9 hb9⟩, hfr, fun i hi => pk_un hi, Or.inl ⟨rfl, _, hy, Or.inr ⟨pk_us, by rw [n_w8, ew8]; exact b_w4, by rw [n_w9, ew9]; exact b_w7, by rw [n_w8, n_w9, ew8, ew9]⟩⟩⟩) dX6_sumPoints_281
            · first | exact absurd hc (by decide) | exact absurd (by decide) hc
          · rw [er]
            refine lv_if_ne (tgt := 173) hx hb dX6_sumPoints_168 (by decide) (fun hc => ?_) (fun hc => ?_)
            · exact absurd rfl hc
            · refine lv_iconst (v := nI 0) hx hb dX6_sumPoints_171 (by decide) ?_
              exact hend _ _ _ _ _ _ hM hS (by decide) (⟨_, Z, ⟨M00, hm, hz0, hf0⟩, hfr, fun i hi => rfl, Or.inr ⟨rfl, psum_no bxa bxb b_o hcc hr⟩⟩) dX6_sumPoints_172
        refine lv_if_eq (tgt := 39) hx hb dX6_sumPoints_15 (by decide) (fun hd => ?_) (fun hd => ?_)
        · have hfr : ∀ j, (j < 5 ∨ 13 < j) → N j = N j := fun _ _ => rfl
          refine lv_aload_n hx hb dX6_sumPoints_39 rfl (lv_at hl 0 rfl) ?_
          refine lv_iload_n hx hb dX6_sumPoints_40 rfl (lv_at hl 2 rfl) ?_
          refine r_Si (As := [.int (nI a)]) (rest := [.ref g]) C hM hS (c6_x l D kA N0 _ a (by omega)) gX6_sumPoints_X6_x rfl rfl rfl ⟨by decide +kernel, by decide +kernel, (by decide +kernel : (parseMethodDescriptor yX6_x.desc).map (fun d => d.parameters.length) = some 1)⟩ ⟨Nat.le_of_ble_eq_true rfl, Nat.le_of_ble_eq_true rfl⟩ hl.1 rfl (Nat.le_of_ble_eq_true rfl) dX6_sumPoints_41 ⟨Nat.le_of_ble_eq_true rfl, Nat.le_of_ble_eq_true rfl⟩ (fun r9 M9 H locs hp9 hM hS => ?_)
          obtain ⟨er9, eM9⟩ := hp9
          rw [eM9] at hM
          rw [er9]
          refine lv_iload_n hx hb dX6_sumPoints_44 rfl (lv_at hl 3 rfl) ?_
          refine r_Si (As := [.int (nI b)]) (rest := [.int (nI (20 + 2 * a)), .ref g]) C hM hS (c6_x l D kA N0 _ b (by omega)) gX6_sumPoints_X6_x rfl rfl rfl ⟨by decide +kernel, by decide +kernel, (by decide +kernel : (parseMethodDescriptor yX6_x.desc).map (fun d => d.parameters.length) = some 1)⟩ ⟨Nat.le_of_ble_eq_true rfl, Nat.le_of_ble_eq_true rfl⟩ hl.1 rfl (Nat.le_of_ble_eq_true rfl) dX6_sumPoints_45 ⟨Nat.le_of_ble_eq_true rfl, Nat.le_of_ble_eq_true rfl⟩ (fun r9 M9 H locs hp9 hM hS => ?_)
          obtain ⟨er9, eM9⟩ := hp9
          rw [eM9] at hM
          rw [er9]
          obtain ⟨us9, hob9⟩ := hm.1
          refine r_Vi (As := [.int (nI (20 + 2 * a)), .int (nI (20 + 2 * b))]) (rest := []) C hM hS (c6_compare l D kA N0 _ _ g (20 + 2 * a) (20 + 2 * b) B _ hm (by omega) (by omega)) (hob9) rfl gX6_sumPoints_X6_compare rfl rfl rfl ⟨rfl, by decide +kernel, by decide +kernel, (by decide +kernel : (parseMethodDescriptor yX6_compare.desc).map (fun d => d.parameters.length) = some 2)⟩ ⟨Nat.le_of_ble_eq_true rfl, Nat.le_of_ble_eq_true rfl⟩ hl.1 rfl (Nat.le_of_ble_eq_true rfl) dX6_sumPoints_48 ⟨Nat.le_of_ble_eq_true rfl, Nat.le_of_ble_eq_true rfl⟩ (fun rc M9 H locs hp9 hM hS => ?_)
          obtain ⟨eM9, hrc⟩ := hp9
          rw [eM9] at hM
          rw [n_xa, n_xb] at hrc
          by_cases hxx : xa = xb
          · have hrc0 : rc = 0 := by
              rcases hrc with ⟨q1, q2⟩ | ⟨q1, q2⟩ | ⟨q1, q2⟩
              · exact q1
              · omega
              · omega
            rw [hrc0]
            refine lv_if_ne (tgt := 130) hx hb dX6_sumPoints_51 (by decide) (fun hf => ?_) (fun hf => ?_)
            · exact absurd rfl hf
            · refine lv_aload_n hx hb dX6_sumPoints_54 rfl (lv_at hl 0 rfl) ?_
              refine lv_bipush (v := nI 6) hx hb dX6_sumPoints_55 (by decide) ?_
              refine lv_iload_n hx hb dX6_sumPoints_57 rfl (lv_at hl 2 rfl) ?_
              refine r_Si (As := [.int (nI a)]) (rest := [.int (nI 6), .ref g]) C hM hS (c6_y l D kA N0 _ a (by omega)) gX6_sumPoints_X6_y rfl rfl rfl ⟨by decide +kernel, by decide +kernel, (by decide +kernel : (parseMethodDescriptor yX6_y.desc).map (fun d => d.parameters.length) = some 1)⟩ ⟨Nat.le_of_ble_eq_true rfl, Nat.le_of_ble_eq_true rfl⟩ hl.1 rfl (Nat.le_of_ble_eq_true rfl) dX6_sumPoints_58 ⟨Nat.le_of_ble_eq_true rfl, Nat.le_of_ble_eq_true rfl⟩ (fun r9 M9 H locs hp9 hM hS => ?_)
              obtain ⟨er9, eM9⟩ := hp9
              rw [eM9] at hM
              rw [er9]
              refine lv_iload_n hx hb dX6_sumPoints_61 rfl (lv_at hl 3 rfl) ?_
              refine r_Si (As := [.int (nI b)]) (rest := [.int (nI (20 + 2 * a + 1)), .int (nI 6), .ref g]) C hM hS (c6_y l D kA N0 _ b (by omega)) gX6_sumPoints_X6_y rfl rfl rfl ⟨by decide +kernel, by decide +kernel, (by decide +kernel : (parseMethodDescriptor yX6_y.desc).map (fun d => d.parameters.length) = some 1)⟩ ⟨Nat.le_of_ble_eq_true rfl, Nat.le_of_ble_eq_true rfl⟩ hl.1 rfl (Nat.le_of_ble_eq_true rfl) dX6_sumPoints_62 ⟨Nat.le_of_ble_eq_true rfl, Nat.le_of_ble_eq_true rfl⟩ (fun r9 M9 H locs hp9 hM hS => ?_)
              obtain ⟨er9, eM9⟩ := hp9
              rw [eM9] at hM
              rw [er9]
              refine lv_iconst (v := nI 0) hx hb dX6_sumPoints_65 (by decide) ?_
              obtain ⟨us9, hob9⟩ := hm.1
              refine r_Vv (As := [.int (nI 6), .int (nI (20 + 2 * a + 1)), .int (nI (20 + 2 * b + 1)), .int (nI 0)]) (rest := []) C hM hS (c6_sumV l D kA N0 _ _ g 6 (20 + 2 * a + 1) (20 + 2 * b + 1) 0 ya yb (k + 1) B _ hm (by omega) (by omega) (by omega) (by omega) n_ya n_yb n_0 (by omega) (bya) (byb) hp9 (by omega)) (hob9) rfl gX6_sumPoints_X6_sum rfl rfl rfl ⟨rfl, by decide +kernel, by decide +kernel, (by decide +kernel : (parseMethodDescriptor yX6_sum.desc).map (fun d => d.parameters.length) = some 4)⟩ ⟨Nat.le_of_ble_eq_true rfl, Nat.le_of_ble_eq_true rfl⟩ hl.1 rfl (Nat.le_of_ble_eq_true rfl) dX6_sumPoints_66 ⟨Nat.le_of_ble_eq_true rfl, Nat.le_of_ble_eq_true rfl⟩ (fun M1 H locs hp9 hM hS => ?_)
              obtain ⟨N9, hm, un9⟩ := hp9
              obtain ⟨w1, ew1⟩ : ∃ q, q = (ya + yb) % (k + 1) := ⟨_, rfl⟩
              rw [← ew1] at un9
              have b_w1 : w1 < k + 1 := by rw [ew1]; exact Nat.mod_lt _ hpp
              have n_w1 := un9.1
              have n_0 := un9.k n_0 (by omega) (by omega)
              have n_1 := un9.k n_1 (by omega) (by omega)
              have n_xa := un9.k n_xa (by omega) (by omega)
              have n_ya := un9.k n_ya (by omega) (by omega)
              have n_xb := un9.k n_xb (by omega) (by omega)
              have n_yb := un9.k n_yb (by omega) (by omega)
              have hfr : ∀ j, (j < 5 ∨ 13 < j) → N9 j = N j := fun j hj => un9.k (hfr j hj) (by omega) (by omega)
              refine lv_aload_n hx hb dX6_sumPoints_69 rfl (lv_at hl 0 rfl) ?_
              refine lv_bipush (v := nI 6) hx hb dX6_sumPoints_70 (by decide) ?_
              obtain ⟨us9, hob9⟩ := hm.1
              refine r_Vi (As := [.int (nI 6)]) (rest := []) C hM hS (c6_isZero l D kA N0 _ _ g 6 B _ hm (by omega)) (hob9) rfl gX6_sumPoints_X6_isZero rfl rfl rfl ⟨rfl, by decide +kernel, by decide +kernel, (by decide +kernel : (parseMethodDescriptor yX6_isZero.desc).map (fun d => d.parameters.length) = some 1)⟩ ⟨Nat.le_of_ble_eq_true rfl, Nat.le_of_ble_eq_true rfl⟩ hl.1 rfl (Nat.le_of_ble_eq_true rfl) dX6_sumPoints_72 ⟨Nat.le_of_ble_eq_true rfl, Nat.le_of_ble_eq_true rfl⟩ (fun rz M9 H locs hp9 hM hS => ?_)
              obtain ⟨eM9, hrz⟩ := hp9
              rw [eM9] at hM
              rw [n_w1] at hrz
              rcases hrz with ⟨q1, q2⟩ | ⟨q1, q2⟩
              · rw [q1]
                refine lv_if_eq (tgt := 87) hx hb dX6_sumPoints_75 (by decide) (fun hg9 => ?_) (fun hg9 => ?_)
                · exact absurd hg9 (by decide)
                · obtain ⟨us9, hob9⟩ := hm.1
                  have hz9 := hm.at4 (b := g + 4) (by omega) (by omega) (by omega) (by omega) (by omega)
                  rw [hz0] at hz9
                  refine lv_aload_n hx hb dX6_sumPoints_78 rfl (lv_at hl 0 rfl) ?_
                  refine x_get (v := .ref (g + 4)) hx hb hts in_X6_sumPoints_X6 hown hK hM (hob9) rfl 7 (by decide) (hts (.fieldLink RX6 24 "LimbCurvesModel" "isNothing" "[Z") (by decide +kernel)) (fun _ h9 => h9) rfl dX6_sumPoints_79 ?_
                  refine lv_iload_n hx hb dX6_sumPoints_82 rfl (lv_at hl 1 rfl) ?_
                  refine lv_iconst (v := nI 1) hx hb dX6_sumPoints_83 (by decide) ?_
                  refine r_zast C hM hS (hz9) rfl (by omega) (by omega) rfl dX6_sumPoints_84 (fun H locs hM hS => ?_)
                  have hm := hm.z4 (xI (kA 1) 5 (upd Z to (nI 1)))
                  have h0 : fz k ya + fz k yb = 0 := by rw [← fz_add, ← ew1, q2]; rfl
                  refine lv_iconst (v := nI 1) hx hb dX6_sumPoints_85 (by decide) ?_
                  exact hend _ _ _ _ _ _ hM hS (by decide) (⟨_, _, ⟨_, hm, xset_s, fun b9 hb9 => by rw [xset_n hb9]; exact hf0 b9 hb9⟩, fun j hj => hfr j (by omega), fun i hi => pk_un hi, Or.inl ⟨rfl, none, psum_id (by rw [hxx]) h0, Or.inl ⟨pk_us, rfl⟩⟩⟩) dX6_sumPoints_86
              · rw [q1]
                refine lv_if_eq (tgt := 87) hx hb dX6_sumPoints_75 (by decide) (fun hg9 => ?_) (fun hg9 => ?_)
                · refine lv_aload_n hx hb dX6_sumPoints_87 rfl (lv_at hl 0 rfl) ?_
                  refine lv_iconst (v := nI 5) hx hb dX6_sumPoints_88 (by decide) ?_
                  refine lv_iload_n hx hb dX6_sumPoints_89 rfl (lv_at hl 2 rfl) ?_
                  refine r_Si (As := [.int (nI a)]) (rest := [.int (nI 5), .ref g]) C hM hS (c6_x l D kA N0 _ a (by omega)) gX6_sumPoints_X6_x rfl rfl rfl ⟨by decide +kernel, by decide +kernel, (by decide +kernel : (parseMethodDescriptor yX6_x.desc).map (fun d => d.parameters.length) = some 1)⟩ ⟨Nat.le_of_ble_eq_true rfl, Nat.le_of_ble_eq_true rfl⟩ hl.1 rfl (Nat.le_of_ble_eq_true rfl) dX6_sumPoints_90 ⟨Nat.le_of_ble_eq_true rfl, Nat.le_of_ble_eq_true rfl⟩ (fun r9 M9 H locs hp9 hM hS => ?_)
                  obtain ⟨er9, eM9⟩ := hp9
                  rw [eM9] at hM
                  rw [er9]
                  refine lv_iload_n hx hb dX6_sumPoints_93 rfl (lv_at hl 2 rfl) ?_
                  refine r_Si (As := [.int (nI a)]) (rest := [.int (nI (20 + 2 * a)), .int (nI 5), .ref g]) C hM hS (c6_x l D kA N0 _ a (by omega)) gX6_sumPoints_X6_x rfl rfl rfl ⟨by decide +kernel, by decide +kernel, (by decide +kernel : (parseMethodDescriptor yX6_x.desc).map (fun d => d.parameters.length) = some 1)⟩ ⟨Nat.le_of_ble_eq_true rfl, Nat.le_of_ble_eq_true rfl⟩ hl.1 rfl (Nat.le_of_ble_eq_true rfl) dX6_sumPoints_94 ⟨Nat.le_of_ble_eq_true rfl, Nat.le_of_ble_eq_true rfl⟩ (fun r9 M9 H locs hp9 hM hS => ?_)
                  obtain ⟨er9, eM9⟩ := hp9
                  rw [eM9] at hM
                  rw [er9]
                  refine lv_iconst (v := nI 0) hx hb dX6_sumPoints_97 (by decide) ?_
                  obtain ⟨us9, hob9⟩ := hm.1
                  refine r_Vv (As := [.int (nI 5), .int (nI (20 + 2 * a)), .int (nI (20 + 2 * a)), .int (nI 0)]) (rest := []) C hM hS (c6_timesV l D kA N0 _ _ g 5 (20 + 2 * a) (20 + 2 * a) 0 xa xa (k + 1) B _ hm (by omega) (by omega) (by omega) (by omega) n_xa n_xa n_0 hpp (by omega)) (hob9) rfl gX6_sumPoints_X6_times rfl rfl rfl ⟨rfl, by decide +kernel, by decide +kernel, (by decide +kernel : (parseMethodDescriptor yX6_times.desc).map (fun d => d.parameters.length) = some 4)⟩ ⟨Nat.le_of_ble_eq_true rfl, Nat.le_of_ble_eq_true rfl⟩ hl.1 rfl (Nat.le_of_ble_eq_true rfl) dX6_sumPoints_98 ⟨Nat.le_of_ble_eq_true rfl, Nat.le_of_ble_eq_true rfl⟩ (fun M1 H locs hp9 hM hS => ?_)
                  obtain ⟨N9, hm, un9⟩ := hp9
                  obtain ⟨w2, ew2⟩ : ∃ q, q = xa * xa % (k + 1) := ⟨_, rfl⟩
                  rw [← ew2] at un9
                  have b_w2 : w2 < k + 1 := by rw [ew2]; exact Nat.mod_lt _ hpp
                  have n_w2 := un9.1
                  have n_0 := un9.k n_0 (by omega) (by omega)
                  have n_1 := un9.k n_1 (by omega) (by omega)
                  have n_xa := un9.k n_xa (by omega) (by omega)
                  have n_ya := un9.k n_ya (by omega) (by omega)
                  have n_xb := un9.k n_xb (by omega) (by omega)
                  have n_yb := un9.k n_yb (by omega) (by omega)
                  have n_w1 := un9.k n_w1 (by omega) (by omega)
                  have hfr : ∀ j, (j < 5 ∨ 13 < j) → N9 j = N j := fun j hj => un9.k (hfr j hj) (by omega) (by omega)
                  refine lv_aload_n hx hb dX6_sumPoints_101 rfl (lv_at hl 0 rfl) ?_
                  refine lv_bipush (v := nI 7) hx hb dX6_sumPoints_102 (by decide) ?_
                  refine lv_iconst (v := nI 5) hx hb dX6_sumPoints_104 (by decide) ?_
                  refine lv_iconst (v := nI 5) hx hb dX6_sumPoints_105 (by decide) ?_
                  refine lv_iconst (v := nI 0) hx hb dX6_sumPoints_106 (by decide) ?_
                  obtain ⟨us9, hob9⟩ := hm.1
                  refine r_Vv (As := [.int (nI 7), .int (nI 5), .int (nI 5), .int (nI 0)]) (rest := []) C hM hS (c6_sumV l D kA N0 _ _ g 7 5 5 0 w2 w2 (k + 1) B _ hm (by omega) (by omega) (by omega) (by omega) n_w2 n_w2 n_0 (by omega) (b_w2) (b_w2) hp9 (by omega)) (hob9) rfl gX6_sumPoints_X6_sum rfl rfl rfl ⟨rfl, by decide +kernel, by decide +kernel, (by decide +kernel : (parseMethodDescriptor yX6_sum.desc).map (fun d => d.parameters.length) = some 4)⟩ ⟨Nat.le_of_ble_eq_true rfl, Nat.le_of_ble_eq_true rfl⟩ hl.1 rfl (Nat.le_of_ble_eq_true rfl) dX6_sumPoints_107 ⟨Nat.le_of_ble_eq_true rfl, Nat.le_of_ble_eq_true rfl⟩ (fun M1 H locs hp9 hM hS => ?_)
                  obtain ⟨N9, hm, un9⟩ := hp9
                  obtain ⟨w3, ew3⟩ : ∃ q, q = (w2 + w2) % (k + 1) := ⟨_, rfl⟩
                  rw [← ew3] at un9
                  have b_w3 : w3 < k + 1 := by rw [ew3]; exact Nat.mod_lt _ hpp
                  have n_w3 := un9.1
                  have n_0 := un9.k n_0 (by omega) (by omega)
                  have n_1 := un9.k n_1 (by omega) (by omega)
                  have n_xa := un9.k n_xa (by omega) (by omega)
                  have n_ya := un9.k n_ya (by omega) (by omega)
                  have n_xb := un9.k n_xb (by omega) (by omega)
                  have n_yb := un9.k n_yb (by omega) (by omega)
                  have n_w1 := un9.k n_w1 (by omega) (by omega)
                  have n_w2 := un9.k n_w2 (by omega) (by omega)
                  have hfr : ∀ j, (j < 5 ∨ 13 < j) → N9 j = N j := fun j hj => un9.k (hfr j hj) (by omega) (by omega)
                  refine lv_aload_n hx hb dX6_sumPoints_110 rfl (lv_at hl 0 rfl) ?_
                  refine lv_iconst (v := nI 5) hx hb dX6_sumPoints_111 (by decide) ?_
                  refine lv_bipush (v := nI 7) hx hb dX6_sumPoints_112 (by decide) ?_
                  refine lv_iconst (v := nI 5) hx hb dX6_sumPoints_114 (by decide) ?_
                  refine lv_iconst (v := nI 0) hx hb dX6_sumPoints_115 (by decide) ?_
                  obtain ⟨us9, hob9⟩ := hm.1
                  refine r_Vv (As := [.int (nI 5), .int (nI 7), .int (nI 5), .int (nI 0)]) (rest := []) C hM hS (c6_sumV l D kA N0 _ _ g 5 7 5 0 w3 w2 (k + 1) B _ hm (by omega) (by omega) (by omega) (by omega) n_w3 n_w2 n_0 (by omega) (b_w3) (b_w2) hp9 (by omega)) (hob9) rfl gX6_sumPoints_X6_sum rfl rfl rfl ⟨rfl, by decide +kernel, by decide +kernel, (by decide +kernel : (parseMethodDescriptor yX6_sum.desc).map (fun d => d.parameters.length) = some 4)⟩ ⟨Nat.le_of_ble_eq_true rfl, Nat.le_of_ble_eq_true rfl⟩ hl.1 rfl (Nat.le_of_ble_eq_true rfl) dX6_sumPoints_116 ⟨Nat.le_of_ble_eq_true rfl, Nat.le_of_ble_eq_true rfl⟩ (fun M1 H locs hp9 hM hS => ?_)
                  obtain ⟨N9, hm, un9⟩ := hp9
                  obtain ⟨w4, ew4⟩ : ∃ q, q = (w3 + w2) % (k + 1) := ⟨_, rfl⟩
                  rw [← ew4] at un9
                  have b_w4 : w4 < k + 1 := by rw [ew4]; exact Nat.mod_lt _ hpp
                  have n_w4 := un9.1
                  have n_0 := un9.k n_0 (by omega) (by omega)
                  have n_1 := un9.k n_1 (by omega) (by omega)
                  have n_xa := un9.k n_xa (by omega) (by omega)
                  have n_ya := un9.k n_ya (by omega) (by omega)
                  have n_xb := un9.k n_xb (by omega) (by omega)
                  have n_yb := un9.k n_yb (by omega) (by omega)
                  have n_w1 := un9.k n_w1 (by omega) (by omega)
                  have n_w3 := un9.k n_w3 (by omega) (by omega)
                  have hfr : ∀ j, (j < 5 ∨ 13 < j) → N9 j = N j := fun j hj => un9.k (hfr j hj) (by omega) (by omega)
                  refine lv_aload_n hx hb dX6_sumPoints_119 rfl (lv_at hl 0 rfl) ?_
                  refine lv_iconst (v := nI 5) hx hb dX6_sumPoints_120 (by decide) ?_
                  refine lv_iconst (v := nI 5) hx hb dX6_sumPoints_121 (by decide) ?_
                  refine lv_iconst (v := nI 1) hx hb dX6_sumPoints_122 (by decide) ?_
                  refine lv_iconst (v := nI 0) hx hb dX6_sumPoints_123 (by decide) ?_
                  obtain ⟨us9, hob9⟩ := hm.1
                  refine r_Vv (As := [.int (nI 5), .int (nI 5), .int (nI 1), .int (nI 0)]) (rest := []) C hM hS (c6_sumV l D kA N0 _ _ g 5 5 1 0 w4 A (k + 1) B _ hm (by omega) (by omega) (by omega) (by omega) n_w4 n_1 n_0 (by omega) (b_w4) (hA) hp9 (by omega)) (hob9) rfl gX6_sumPoints_X6_sum rfl rfl rfl ⟨rfl, by decide +kernel, by decide +kernel, (by decide +kernel : (parseMethodDescriptor yX6_sum.desc).map (fun d => d.parameters.length) = some 4)⟩ ⟨Nat.le_of_ble_eq_true rfl, Nat.le_of_ble_eq_true rfl⟩ hl.1 rfl (Nat.le_of_ble_eq_true rfl) dX6_sumPoints_124 ⟨Nat.le_of_ble_eq_true rfl, Nat.le_of_ble_eq_true rfl⟩ (fun M1 H locs hp9 hM hS => ?_)
                  obtain ⟨N9, hm, un9⟩ := hp9
                  obtain ⟨w5, ew5⟩ : ∃ q, q = (w4 + A) % (k + 1) := ⟨_, rfl⟩
                  rw [← ew5] at un9
                  have b_w5 : w5 < k + 1 := by rw [ew5]; exact Nat.mod_lt _ hpp
                  have n_w5 := un9.1
                  have n_0 := un9.k n_0 (by omega) (by omega)
                  have n_1 := un9.k n_1 (by omega) (by omega)
                  have n_xa := un9.k n_xa (by omega) (by omega)
                  have n_ya := un9.k n_ya (by omega) (by omega)
                  have n_xb := un9.k n_xb (by omega) (by omega)
                  have n_yb := un9.k n_yb (by omega) (by omega)
                  have n_w1 := un9.k n_w1 (by omega) (by omega)
                  have n_w3 := un9.k n_w3 (by omega) (by omega)
                  have hfr : ∀ j, (j < 5 ∨ 13 < j) → N9 j = N j := fun j hj => un9.k (hfr j hj) (by omega) (by omega)
                  refine lv_goto (tgt := 159) hx hb dX6_sumPoints_127 (by decide) ?_
                  refine hT _ w5 w1 _ H locs ls hm hfr n_w5 b_w5 n_w1 b_w1 (Or.inl ⟨hxx, ?_, q2, ?_⟩) hM hS hl
                  · rw [ew1, fz_add]
                  · rw [ew5, fz_add, ew4, fz_add, ew3, fz_add, ew2, fz_mul]
                    grind
                · exact absurd rfl hg9
          · have hrc0 : rc ≠ 0 := by
              rcases hrc with ⟨q1, q2⟩ | ⟨q1, q2⟩ | ⟨q1, q2⟩
              · exact absurd q2 hxx
              · rw [q1]; decide
              · rw [q1]; decide
            refine lv_if_ne (tgt := 130) hx hb dX6_sumPoints_51 (by decide) (fun hf => ?_) (fun hf => ?_)
            · refine lv_aload_n hx hb dX6_sumPoints_130 rfl (lv_at hl 0 rfl) ?_
              refine lv_iconst (v := nI 5) hx hb dX6_sumPoints_131 (by decide) ?_
              refine lv_iload_n hx hb dX6_sumPoints_132 rfl (lv_at hl 3 rfl) ?_
              refine r_Si (As := [.int (nI b)]) (rest := [.int (nI 5), .ref g]) C hM hS (c6_y l D kA N0 _ b (by omega)) gX6_sumPoints_X6_y rfl rfl rfl ⟨by decide +kernel, by decide +kernel, (by decide +kernel : (parseMethodDescriptor yX6_y.desc).map (fun d => d.parameters.length) = some 1)⟩ ⟨Nat.le_of_ble_eq_true rfl, Nat.le_of_ble_eq_true rfl⟩ hl.1 rfl (Nat.le_of_ble_eq_true rfl) dX6_sumPoints_133 ⟨Nat.le_of_ble_eq_true rfl, Nat.le_of_ble_eq_true rfl⟩ (fun r9 M9 H locs hp9 hM hS => ?_)
              obtain ⟨er9, eM9⟩ := hp9
              rw [eM9] at hM
              rw [er9]
              refine lv_iload_n hx hb dX6_sumPoints_136 rfl (lv_at hl 2 rfl) ?_
              refine r_Si (As := [.int (nI a)]) (rest := [.int (nI (20 + 2 * b + 1)), .int (nI 5), .ref g]) C hM hS (c6_y l D kA N0 _ a (by omega)) gX6_sumPoints_X6_y rfl rfl rfl ⟨by decide +kernel, by decide +kernel, (by decide +kernel : (parseMethodDescriptor yX6_y.desc).map (fun d => d.parameters.length) = some 1)⟩ ⟨Nat.le_of_ble_eq_true rfl, Nat.le_of_ble_eq_true rfl⟩ hl.1 rfl (Nat.le_of_ble_eq_true rfl) dX6_sumPoints_137 ⟨Nat.le_of_ble_eq_true rfl, Nat.le_of_ble_eq_true rfl⟩ (fun r9 M9 H locs hp9 hM hS => ?_)
              obtain ⟨er9, eM9⟩ := hp9
              rw [eM9] at hM
              rw [er9]
              refine lv_iconst (v := nI 0) hx hb dX6_sumPoints_140 (by decide) ?_
              obtain ⟨us9, hob9⟩ := hm.1
              refine r_Vv (As := [.int (nI 5), .int (nI (20 + 2 * b + 1)), .int (nI (20 + 2 * a + 1)), .int (nI 0)]) (rest := []) C hM hS (c6_differenceV l D kA N0 _ _ g 5 (20 + 2 * b + 1) (20 + 2 * a + 1) 0 yb ya (k + 1) B _ hm (by omega) (by omega) (by omega) (by omega) n_yb n_ya n_0 (by omega) (by omega) (byb) (bya) hp9 (by omega)) (hob9) rfl gX6_sumPoints_X6_difference rfl rfl rfl ⟨rfl, by decide +kernel, by decide +kernel, (by decide +kernel : (parseMethodDescriptor yX6_difference.desc).map (fun d => d.parameters.length) = some 4)⟩ ⟨Nat.le_of_ble_eq_true rfl, Nat.le_of_ble_eq_true rfl⟩ hl.1 rfl (Nat.le_of_ble_eq_true rfl) dX6_sumPoints_141 ⟨Nat.le_of_ble_eq_true rfl, Nat.le_of_ble_eq_true rfl⟩ (fun M1 H locs hp9 hM hS => ?_)
              obtain ⟨N9, hm, un9⟩ := hp9
              obtain ⟨w1, ew1⟩ : ∃ q, q = (yb + ((k + 1) - ya)) % (k + 1) := ⟨_, rfl⟩
              rw [← ew1] at un9
              have b_w1 : w1 < k + 1 := by rw [ew1]; exact Nat.mod_lt _ hpp
              have n_w1 := un9.1
              have n_0 := un9.k n_0 (by omega) (by omega)
              have n_xa := un9.k n_xa (by omega) (by omega)
              have n_ya := un9.k n_ya (by omega) (by omega)
              have n_xb := un9.k n_xb (by omega) (by omega)
              have n_yb := un9.k n_yb (by omega) (by omega)
              have hfr : ∀ j, (j < 5 ∨ 13 < j) → N9 j = N j := fun j hj => un9.k (hfr j hj) (by omega) (by omega)
              refine lv_aload_n hx hb dX6_sumPoints_144 rfl (lv_at hl 0 rfl) ?_
              refine lv_bipush (v := nI 6) hx hb dX6_sumPoints_145 (by decide) ?_
              refine lv_iload_n hx hb dX6_sumPoints_147 rfl (lv_at hl 3 rfl) ?_
              refine r_Si (As := [.int (nI b)]) (rest := [.int (nI 6), .ref g]) C hM hS (c6_x l D kA N0 _ b (by omega)) gX6_sumPoints_X6_x rfl rfl rfl ⟨by decide +kernel, by decide +kernel, (by decide +kernel : (parseMethodDescriptor yX6_x.desc).map (fun d => d.parameters.length) = some 1)⟩ ⟨Nat.le_of_ble_eq_true rfl, Nat.le_of_ble_eq_true rfl⟩ hl.1 rfl (Nat.le_of_ble_eq_true rfl) dX6_sumPoints_148 ⟨Nat.le_of_ble_eq_true rfl, Nat.le_of_ble_eq_true rfl⟩ (fun r9 M9 H locs hp9 hM hS => ?_)
              obtain ⟨er9, eM9⟩ := hp9
              rw [eM9] at hM
              rw [er9]
              refine lv_iload_n hx hb dX6_sumPoints_151 rfl (lv_at hl 2 rfl) ?_
              refine r_Si (As := [.int (nI a)]) (rest := [.int (nI (20 + 2 * b)), .int (nI 6), .ref g]) C hM hS (c6_x l D kA N0 _ a (by omega)) gX6_sumPoints_X6_x rfl rfl rfl ⟨by decide +kernel, by decide +kernel, (by decide +kernel : (parseMethodDescriptor yX6_x.desc).map (fun d => d.parameters.length) = some 1)⟩ ⟨Nat.le_of_ble_eq_true rfl, Nat.le_of_ble_eq_true rfl⟩ hl.1 rfl (Nat.le_of_ble_eq_true rfl) dX6_sumPoints_152 ⟨Nat.le_of_ble_eq_true rfl, Nat.le_of_ble_eq_true rfl⟩ (fun r9 M9 H locs hp9 hM hS => ?_)
              obtain ⟨er9, eM9⟩ := hp9
              rw [eM9] at hM
              rw [er9]
              refine lv_iconst (v := nI 0) hx hb dX6_sumPoints_155 (by decide) ?_
              obtain ⟨us9, hob9⟩ := hm.1
              refine r_Vv (As := [.int (nI 6), .int (nI (20 + 2 * b)), .int (nI (20 + 2 * a)), .int (nI 0)]) (rest := []) C hM hS (c6_differenceV l D kA N0 _ _ g 6 (20 + 2 * b) (20 + 2 * a) 0 xb xa (k + 1) B _ hm (by omega) (by omega) (by omega) (by omega) n_xb n_xa n_0 (by omega) (by omega) (bxb) (bxa) hp9 (by omega)) (hob9) rfl gX6_sumPoints_X6_difference rfl rfl rfl ⟨rfl, by decide +kernel, by decide +kernel, (by decide +kernel : (parseMethodDescriptor yX6_difference.desc).map (fun d => d.parameters.length) = some 4)⟩ ⟨Nat.le_of_ble_eq_true rfl, Nat.le_of_ble_eq_true rfl⟩ hl.1 rfl (Nat.le_of_ble_eq_true rfl) dX6_sumPoints_156 ⟨Nat.le_of_ble_eq_true rfl, Nat.le_of_ble_eq_true rfl⟩ (fun M1 H locs hp9 hM hS => ?_)
              obtain ⟨N9, hm, un9⟩ := hp9
              obtain ⟨w2, ew2⟩ : ∃ q, q = (xb + ((k + 1) - xa)) % (k + 1) := ⟨_, rfl⟩
              rw [← ew2] at un9
              have b_w2 : w2 < k + 1 := by rw [ew2]; exact Nat.mod_lt _ hpp
              have n_w2 := un9.1
              have n_0 := un9.k n_0 (by omega) (by omega)
              have n_xa := un9.k n_xa (by omega) (by omega)
              have n_ya := un9.k n_ya (by omega) (by omega)
              have n_xb := un9.k n_xb (by omega) (by omega)
              have n_yb := un9.k n_yb (by omega) (by omega)
              have n_w1 := un9.k n_w1 (by omega) (by omega)
              have hfr : ∀ j, (j < 5 ∨ 13 < j) → N9 j = N j := fun j hj => un9.k (hfr j hj) (by omega) (by omega)
              refine hT _ w1 w2 _ H locs ls hm hfr n_w1 b_w1 n_w2 b_w2 (Or.inr ⟨hxx, ?_, ?_⟩) hM hS hl
              · rw [ew2, fz_sub (Nat.le_of_lt bxa)]
              · rw [ew1, fz_sub (Nat.le_of_lt bya)]
            · exact absurd hf hrc0
        · exact absurd rfl hd
end NM10
