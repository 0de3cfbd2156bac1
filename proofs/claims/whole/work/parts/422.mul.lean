theorem in_X6_multiply_X6 : ∀ w ∈ wsX60, w ∈ wsX6_multiply := by decide +kernel
theorem kstep_y {k : Nat} {A : Zp k} {P R S : Pt k} {b : Bool} (h : psum A R R = some S) : kstep A P b (some R) = if b then psum A S P else some S := by
  show (match psum A R R with
    | none => none
    | some S => if b then psum A S P else some S) = _
  rw [h]
theorem kstep_n {k : Nat} {A : Zp k} {P R : Pt k} {b : Bool} (h : psum A R R = none) : kstep A P b (some R) = none := by
  show (match psum A R R with
    | none => none
    | some S => if b then psum A S P else some S) = _
  rw [h]
theorem kT_up {k : Nat} (A : Zp k) (P : Pt k) : ∀ (j n : Nat), kT A P (n / 2 ^ j) = none → kT A P n = none := by
  intro j
  induction j with
  | zero =>
    intro n h
    rw [Nat.pow_zero, Nat.div_one] at h
    exact h
  | succ j ih =>
    intro n h
    rw [Nat.pow_succ, Nat.mul_comm, ← Nat.div_div_eq_div_mul] at h
    rw [kT_s, ih _ h]
    rfl
theorem kT_dn {k : Nat} (A : Zp k) (P : Pt k) (n j : Nat) : kT A P (n / 2 ^ j) = kstep A P (decide (n / 2 ^ j % 2 = 1)) (kT A P (n / 2 ^ (j + 1))) := by
  rw [kT_s, Nat.div_div_eq_div_mul, Nat.pow_succ]
theorem bitN {F : Nat → Int32} {N : Nat → Nat} (h : Nf F N) {n j : Nat} (hn : n < 30) (hj : j < 310) : dg (F (10 * n + j / 31)) / 2 ^ (j % 31) % 2 = N n / 2 ^ j % 2 := by
  have h1 := bit_of (f := fun i => F (10 * n + i)) (L := 10) (i := j / 31) (b := j % 31) (by omega) (by omega)
  rw [← Vw_V, h.2 n hn, show 31 * (j / 31) + j % 31 = j by omega] at h1
  exact h1.symm
section NM11
variable {p : Program} {l : Launch} {e : Env} {R : Room} {s : State} {m : MethodId} {args : Array Value} {below : List Frame} {meth : Method} {c : Code} {Q : State → Prop} {cells slots : Nat} {ret : Option FieldType} {D : va_G} {kA : Nat → ClassId} {N0 : Nat}
set_option maxRecDepth 100000 in
theorem c6_multiply (l : Launch) (D : va_G) (kA : Nat → ClassId) (N0 : Nat) (M0 M : xM) (g to num a k A : Nat) (B : Int32 × Int32 × Int32 × Int32) (N : Nat → Nat) (Z : Nat → Int32) (P : Pt k) (hz : MZ kA M0 M g B N Z) (hto : to < 5) (ha : a < 5) (hta : a ≠ to) (hnum : 13 < num) (hnum2 : num < 20) (hP : PV k N Z a P) (n_0 : N 0 = k + 1) (n_1 : N 1 = A) (h4 : N 4 = 1) (hA : A < k + 1) (hodd : (k + 1) % 2 = 1) (h3 : 3 < k + 1) (hp9 : k + 1 < BB ^ 9) : cI l yX6_multiply wsX6_multiply (xR 5) [.ref g, .int (nI to), .int (nI num), .int (nI a)] D kA N0 M (fun r M1 => ∃ N' Z', MZ kA M0 M1 g B N' Z' ∧ (∀ j, (j < 5 ∨ (13 < j ∧ j ≠ 20 + 2 * to ∧ j ≠ 20 + 2 * to + 1)) → N' j = N j) ∧ (∀ i, i ≠ to → Z' i = Z i) ∧ ((r = 1 ∧ ∃ S, kT (fz k A) P (N num) = some S ∧ PV k N' Z' to S) ∨ (r = 0 ∧ kT (fz k A) P (N num) = none))) := by
  obtain ⟨us, hob⟩ := hz.ob
  have hz4 := hz.z
  obtain ⟨n, en⟩ : ∃ q, N num = q := ⟨_, rfl⟩
  rw [en]
  have hn10 : n < 2 ^ 310 := by
    obtain ⟨M00, hm, -, -⟩ := hz
    have := hm.lt (n := num) (by omega)
    rw [en] at this
    exact this
  refine r_mZ (cc := cX6_multiply) (maxL := 7) (by decide) rfl (Nat.le_of_ble_eq_true rfl) ?_
  intro p e s m below meth c ls A0 Qp C hM hnm hl hend
  obtain ⟨hx, hb, hml, hown, hts, hr, hlocks, hK, hN⟩ := _root_.id C
  have hS : va_S (xA N0) s.heap s.heap [] := va_S.rf
  have hl : lv_has ls 7 [(0, .ref g), (1, .int (nI to)), (2, .int (nI num)), (3, .int (nI a))] := hl
  refine lv_aload_n hx hb dX6_multiply_0 rfl (lv_at hl 0 rfl) ?_
  refine x_get (v := .ref (g + 4)) hx hb hts in_X6_multiply_X6 hown hK hM (hob) rfl 7 (by decide) (hts (.fieldLink RX6 24 "LimbCurvesModel" "isNothing" "[Z") (by decide +kernel)) (fun _ h9 => h9) rfl dX6_multiply_1 ?_
  refine lv_iload_n hx hb dX6_multiply_4 rfl (lv_at hl 1 rfl) ?_
  refine lv_iconst (v := nI 1) hx hb dX6_multiply_5 (by decide) ?_
  refine r_zast C hM hS (hz4) rfl (by omega) (by omega) rfl dX6_multiply_6 (fun H locs hM hS => ?_)
  have hz := hz.setz (upd Z to (nI 1))
  have lp : ∀ (j : Nat) (Ni : Nat → Nat) (Zi : Nat → Int32) (R : Pt k) (bg : Nat) (M1 : xM) (H : Heap) (locs : List Loc) (ls : Array Slot), j ≤ 310 → MZ kA M0 M1 g B Ni Zi → (∀ i, (i < 5 ∨ (13 < i ∧ i ≠ 20 + 2 * to ∧ i ≠ 20 + 2 * to + 1)) → Ni i = N i) → (∀ i, i ≠ to → Zi i = Z i) → kT (fz k A) P (n / 2 ^ j) = some R → PV k Ni Zi to R → ((bg = 0 ∧ n / 2 ^ j = 0) ∨ bg = 1) → xW D vwCl N0 M1 H → va_S (xA N0) s.heap H locs → lv_has ls 7 [(5, .int (nI j - 1)), (4, .int (nI bg)), (0, .ref g), (1, .int (nI to)), (2, .int (nI num)), (3, .int (nI a))] → W p l e (xR 5) s m A0 below meth c H locs 0 0 Qp (F0 m 15 ls []) := by
    intro j
    induction j with
    | zero =>
      intro Ni Zi R bg M1 H locs ls hj hz1 hfr hZ hk hR hbg hM hS hl
      refine lv_iload hx hb dX6_multiply_15 (lv_at hl 0 rfl) ?_
      refine lv_if_lt (tgt := 106) hx hb dX6_multiply_17 (by decide) (fun hc => ?_) (fun hc => ?_)
      · rw [Nat.pow_zero, Nat.div_one] at hk
        refine lv_iconst (v := nI 1) hx hb dX6_multiply_106 (by decide) ?_
        exact hend _ _ _ _ _ _ hM hS (by decide) (⟨Ni, Zi, hz1, hfr, hZ, Or.inl ⟨rfl, R, hk, hR⟩⟩) dX6_multiply_107
      · first | exact absurd hc (by decide) | exact absurd (by decide) hc
    | succ j ih =>
      intro Ni Zi R bg M1 H locs ls hj hz1 hfr hZ hk hR hbg hM hS hl
      have hl : lv_has ls 7 [(5, .int (nI j)), (4, .int (nI bg)), (0, .ref g), (1, .int (nI to)), (2, .int (nI num)), (3, .int (nI a))] := by rw [nI_pred] at hl; exact hl
      have hkj := kT_dn (fz k A) P n j
      rw [hk] at hkj
      have hmul : n / 2 ^ j = 2 * (n / 2 ^ (j + 1)) + n / 2 ^ j % 2 := by
        rw [Nat.pow_succ, ← Nat.div_div_eq_div_mul]
        omega
      obtain ⟨is, his⟩ : ∃ q, n / 2 ^ j % 2 = q := ⟨_, rfl⟩
      rw [his] at hmul hkj
      have his2 : is < 2 := by rw [← his]; exact Nat.mod_lt _ (by decide)
      -- the point is added
      have hI : ∀ (Ni : Nat → Nat) (Zi : Nat → Int32) (S : Pt k) (bg : Nat) (M1 : xM) (H : Heap) (locs : List Loc) (ls : Array Slot), MZ kA M0 M1 g B Ni Zi → (∀ i, (i < 5 ∨ (13 < i ∧ i ≠ 20 + 2 * to ∧ i ≠ 20 + 2 * to + 1)) → Ni i = N i) → (∀ i, i ≠ to → Zi i = Z i) → (kT (fz k A) P (n / 2 ^ j) = if is = 1 then psum (fz k A) S P else some S) → PV k Ni Zi to S → ((bg = 0 ∧ n / 2 ^ j = 0) ∨ bg = 1) → xW D vwCl N0 M1 H → va_S (xA N0) s.heap H locs → lv_has ls 7 [(4, .int (nI bg)), (6, .int (nI is)), (5, .int (nI j)), (0, .ref g), (1, .int (nI to)), (2, .int (nI num)), (3, .int (nI a))] → W p l e (xR 5) s m A0 below meth c H locs 0 0 Qp (F0 m 83 ls []) := by
        intro Ni Zi S bg M1 H locs ls hz1 hfr hZ hk hR hbg hM hS hl
        have hPi : PV k Ni Zi a P := hP.cg (hfr _ (by omega)) (hfr _ (by omega)) (hZ a hta)
        obtain ⟨us1, hob1⟩ := hz1.ob
        refine lv_iload hx hb dX6_multiply_83 (lv_at hl 1 rfl) ?_
        refine r_if_eqN (tgt := 100) C (by omega) dX6_multiply_85 (by decide) (fun hc => ?_) (fun hc => ?_)
        · rw [if_neg (by omega)] at hk
          refine lv_iinc (v := nI j - 1) (lv' := [(5, .int (nI j - 1)), (4, .int (nI bg)), (6, .int (nI is)), (0, .ref g), (1, .int (nI to)), (2, .int (nI num)), (3, .int (nI a))]) hx hb dX6_multiply_100 hl (k := 2) rfl (r_decI _) (by decide) rfl (fun ls hl => ?_)
          refine lv_goto (tgt := 15) hx hb dX6_multiply_103 (by decide) ?_
          exact ih Ni Zi S bg M1 H locs ls (by omega) hz1 hfr hZ hk hR hbg hM hS (lv_sub hl [0, 1, 3, 4, 5, 6] rfl)
        · rw [if_pos (by omega)] at hk
          refine lv_aload_n hx hb dX6_multiply_88 rfl (lv_at hl 3 rfl) ?_
          refine lv_iload_n hx hb dX6_multiply_89 rfl (lv_at hl 4 rfl) ?_
          refine lv_iload_n hx hb dX6_multiply_90 rfl (lv_at hl 4 rfl) ?_
          refine lv_iload_n hx hb dX6_multiply_91 rfl (lv_at hl 6 rfl) ?_
          refine r_Vi (As := [.int (nI to), .int (nI to), .int (nI a)]) (rest := []) C hM hS (c6_sumPoints l D kA N0 M0 M1 g to to a k A B Ni Zi S P hz1 hto hto ha hR hPi (by rw [hfr 0 (by omega)]; exact n_0) (by rw [hfr 1 (by omega)]; exact n_1) (by rw [hfr 4 (by omega)]; exact h4) hA hodd h3 hp9) (hob1) rfl gX6_multiply_X6_sumPoints rfl rfl rfl ⟨rfl, by decide +kernel, by decide +kernel, (by decide +kernel : (parseMethodDescriptor yX6_sumPoints.desc).map (fun d => d.parameters.length) = some 3)⟩ ⟨Nat.le_of_ble_eq_true rfl, Nat.le_of_ble_eq_true rfl⟩ hl.1 rfl (Nat.le_of_ble_eq_true rfl) dX6_multiply_92 ⟨Nat.le_of_ble_eq_true rfl, Nat.le_of_ble_eq_true rfl⟩ (fun r M2 H locs hp hM hS => ?_)
          obtain ⟨N2, Z2, hz2, hf2, hZ2, hr⟩ := hp
          have hf3 : ∀ i, (i < 5 ∨ (13 < i ∧ i ≠ 20 + 2 * to ∧ i ≠ 20 + 2 * to + 1)) → N2 i = N i := fun i hi => by rw [hf2 i hi]; exact hfr i hi
          have hZ3 : ∀ i, i ≠ to → Z2 i = Z i := fun i hi => by rw [hZ2 i hi]; exact hZ i hi
          rcases hr with ⟨er, S2, h5, h6⟩ | ⟨er, h5⟩
          · rw [er]
            refine lv_if_ne (tgt := 100) hx hb dX6_multiply_95 (by decide) (fun hd => ?_) (fun hd => ?_)
            · refine lv_iinc (v := nI j - 1) (lv' := [(5, .int (nI j - 1)), (4, .int (nI bg)), (6, .int (nI is)), (0, .ref g), (1, .int (nI to)), (2, .int (nI num)), (3, .int (nI a))]) hx hb dX6_multiply_100 hl (k := 2) rfl (r_decI _) (by decide) rfl (fun ls hl => ?_)
              refine lv_goto (tgt := 15) hx hb dX6_multiply_103 (by decide) ?_
              exact ih N2 Z2 S2 bg M2 H locs ls (by omega) hz2 hf3 hZ3 (by rw [hk]; exact h5) h6 hbg hM hS (lv_sub hl [0, 1, 3, 4, 5, 6] rfl)
            · first | exact absurd hd (by decide) | exact absurd (by decide) hd
          · rw [er]
            refine lv_if_ne (tgt := 100) hx hb dX6_multiply_95 (by decide) (fun hd => ?_) (fun hd => ?_)
            · exact absurd rfl hd
            · refine lv_iconst (v := nI 0) hx hb dX6_multiply_98 (by decide) ?_
              exact hend _ _ _ _ _ _ hM hS (by decide) (⟨N2, Z2, hz2, hf3, hZ3, Or.inr ⟨rfl, kT_up _ _ j n (by rw [hk]; exact h5)⟩⟩) dX6_multiply_99
      -- it is doubled
      have hB : ∀ (bg : Nat) (H : Heap) (locs : List Loc) (ls : Array Slot), ((bg = 0 ∧ n / 2 ^ j = 0) ∨ bg = 1) → xW D vwCl N0 M1 H → va_S (xA N0) s.heap H locs → lv_has ls 7 [(4, .int (nI bg)), (6, .int (nI is)), (5, .int (nI j)), (0, .ref g), (1, .int (nI to)), (2, .int (nI num)), (3, .int (nI a))] → W p l e (xR 5) s m A0 below meth c H locs 0 0 Qp (F0 m 66 ls []) := by
        intro bg H locs ls hbg hM hS hl
        obtain ⟨us1, hob1⟩ := hz1.ob
        refine lv_iload hx hb dX6_multiply_66 (lv_at hl 0 rfl) ?_
        refine r_if_eqN (tgt := 83) C (by omega) dX6_multiply_68 (by decide) (fun hc => ?_) (fun hc => ?_)
        · have hn0 : n / 2 ^ j = 0 := by omega
          have hn1 : n / 2 ^ (j + 1) = 0 := by omega
          have eR : R = none := by
            rw [hn1, kT_0] at hk
            exact (Option.some.inj hk).symm
          refine hI Ni Zi R bg M1 H locs ls hz1 hfr hZ ?_ hR hbg hM hS hl
          rw [if_neg (by omega), hn0, kT_0, eR]
        · refine lv_aload_n hx hb dX6_multiply_71 rfl (lv_at hl 3 rfl) ?_
          refine lv_iload_n hx hb dX6_multiply_72 rfl (lv_at hl 4 rfl) ?_
          refine lv_iload_n hx hb dX6_multiply_73 rfl (lv_at hl 4 rfl) ?_
          refine lv_iload_n hx hb dX6_multiply_74 rfl (lv_at hl 4 rfl) ?_
          refine r_Vi (As := [.int (nI to), .int (nI to), .int (nI to)]) (rest := []) C hM hS (c6_sumPoints l D kA N0 M0 M1 g to to to k A B Ni Zi R R hz1 hto hto hto hR hR (by rw [hfr 0 (by omega)]; exact n_0) (by rw [hfr 1 (by omega)]; exact n_1) (by rw [hfr 4 (by omega)]; exact h4) hA hodd h3 hp9) (hob1) rfl gX6_multiply_X6_sumPoints rfl rfl rfl ⟨rfl, by decide +kernel, by decide +kernel, (by decide +kernel : (parseMethodDescriptor yX6_sumPoints.desc).map (fun d => d.parameters.length) = some 3)⟩ ⟨Nat.le_of_ble_eq_true rfl, Nat.le_of_ble_eq_true rfl⟩ hl.1 rfl (Nat.le_of_ble_eq_true rfl) dX6_multiply_75 ⟨Nat.le_of_ble_eq_true rfl, Nat.le_of_ble_eq_true rfl⟩ (fun r M2 H locs hp hM hS => ?_)
          obtain ⟨N2, Z2, hz2, hf2, hZ2, hr⟩ := hp
          have hf3 : ∀ i, (i < 5 ∨ (13 < i ∧ i ≠ 20 + 2 * to ∧ i ≠ 20 + 2 * to + 1)) → N2 i = N i := fun i hi => by rw [hf2 i hi]; exact hfr i hi
          have hZ3 : ∀ i, i ≠ to → Z2 i = Z i := fun i hi => by rw [hZ2 i hi]; exact hZ i hi
          rcases hr with ⟨er, S2, h5, h6⟩ | ⟨er, h5⟩
          · rw [er]
            refine lv_if_ne (tgt := 83) hx hb dX6_multiply_78 (by decide) (fun hd => ?_) (fun hd => ?_)
            · refine hI N2 Z2 S2 bg M2 H locs ls hz2 hf3 hZ3 ?_ h6 hbg hM hS hl
              rw [hkj, kstep_y h5]
              by_cases q1 : is = 1
              · simp [q1]
              · simp [q1]
            · first | exact absurd hd (by decide) | exact absurd (by decide) hd
          · rw [er]
            refine lv_if_ne (tgt := 83) hx hb dX6_multiply_78 (by decide) (fun hd => ?_) (fun hd => ?_)
            · exact absurd rfl hd
            · refine lv_iconst (v := nI 0) hx hb dX6_multiply_81 (by decide) ?_
              exact hend _ _ _ _ _ _ hM hS (by decide) (⟨N2, Z2, hz2, hf3, hZ3, Or.inr ⟨rfl, kT_up _ _ j n (by rw [hkj]; exact kstep_n h5)⟩⟩) dX6_multiply_82
      have hK : ∀ (H : Heap) (locs : List Loc) (ls : Array Slot), xW D vwCl N0 M1 H → va_S (xA N0) s.heap H locs → lv_has ls 7 [(6, .int (nI is)), (5, .int (nI j)), (4, .int (nI bg)), (0, .ref g), (1, .int (nI to)), (2, .int (nI num)), (3, .int (nI a))] → W p l e (xR 5) s m A0 below meth c H locs 0 0 Qp (F0 m 49 ls []) := by
        intro H locs ls hM hS hl
        refine lv_iload hx hb dX6_multiply_49 (lv_at hl 2 rfl) ?_
        refine r_if_neN (tgt := 59) C (by omega) dX6_multiply_51 (by decide) (fun hc => ?_) (fun hc => ?_)
        · refine lv_iconst (v := nI 1) hx hb dX6_multiply_59 (by decide) ?_
          refine lv_goto (tgt := 64) hx hb dX6_multiply_60 (by decide) ?_
          refine lv_istore (lv' := [(4, .int (nI 1)), (6, .int (nI is)), (5, .int (nI j)), (0, .ref g), (1, .int (nI to)), (2, .int (nI num)), (3, .int (nI a))]) hx hb dX6_multiply_64 hl (by decide) rfl (fun ls hl => ?_)
          exact hB 1 H locs ls (Or.inr rfl) hM hS hl
        · refine lv_iload hx hb dX6_multiply_54 (lv_at hl 0 rfl) ?_
          refine r_if_eqN (tgt := 63) C (by omega) dX6_multiply_56 (by decide) (fun hd => ?_) (fun hd => ?_)
          · refine lv_iconst (v := nI 0) hx hb dX6_multiply_63 (by decide) ?_
            refine lv_istore (lv' := [(4, .int (nI 0)), (6, .int (nI is)), (5, .int (nI j)), (0, .ref g), (1, .int (nI to)), (2, .int (nI num)), (3, .int (nI a))]) hx hb dX6_multiply_64 hl (by decide) rfl (fun ls hl => ?_)
            exact hB 0 H locs ls (Or.inl ⟨rfl, by omega⟩) hM hS hl
          · refine lv_iconst (v := nI 1) hx hb dX6_multiply_59 (by decide) ?_
            refine lv_goto (tgt := 64) hx hb dX6_multiply_60 (by decide) ?_
            refine lv_istore (lv' := [(4, .int (nI 1)), (6, .int (nI is)), (5, .int (nI j)), (0, .ref g), (1, .int (nI to)), (2, .int (nI num)), (3, .int (nI a))]) hx hb dX6_multiply_64 hl (by decide) rfl (fun ls hl => ?_)
            exact hB 1 H locs ls (Or.inr rfl) hM hS hl
      have hmz := hz1
      obtain ⟨M00, hm1, hz0, hf0⟩ := hmz
      obtain ⟨us1, F, hob1, hF, hnf, -⟩ := hm1.op
      have hbt := bitN hnf (n := num) (j := j) (by omega) (by omega)
      rw [hfr num (by omega), en, his] at hbt
      have zf := hnf.nn9 (n := num) (i := j / 31) (by omega) (by omega)
      have lf := dg_lt (F (10 * num + j / 31))
      have hBB : BB = 2147483648 := rfl
      refine lv_iload hx hb dX6_multiply_15 (lv_at hl 0 rfl) ?_
      refine r_if_ltN (tgt := 106) C (by omega) dX6_multiply_17 (by decide) (fun hc => ?_) (fun hc => ?_)
      · exact hc.elim
      · refine lv_aload_n hx hb dX6_multiply_20 rfl (lv_at hl 2 rfl) ?_
        refine lv_iload_n hx hb dX6_multiply_21 rfl (lv_at hl 4 rfl) ?_
        refine lv_iload hx hb dX6_multiply_22 (lv_at hl 0 rfl) ?_
        refine lv_bipush (v := nI 31) hx hb dX6_multiply_24 (by decide) ?_
        refine lv_idiv hx hb dX6_multiply_26 (nI_ne0 (by omega) (by omega)) ?_
        refine r_topi C (nI (j / 31)) (pk_div (by omega) (by omega) (by omega)) ?_
        refine r_Vi (As := [.int (nI num), .int (nI (j / 31))]) (rest := []) C hM hS (c6_get l D kA N0 M1 g num (j / 31) B us1 F hob1 hF (by omega) (by omega)) (hob1) rfl gX6_multiply_X6_get rfl rfl rfl ⟨rfl, by decide +kernel, by decide +kernel, (by decide +kernel : (parseMethodDescriptor yX6_get.desc).map (fun d => d.parameters.length) = some 2)⟩ ⟨Nat.le_of_ble_eq_true rfl, Nat.le_of_ble_eq_true rfl⟩ hl.1 rfl (Nat.le_of_ble_eq_true rfl) dX6_multiply_27 ⟨Nat.le_of_ble_eq_true rfl, Nat.le_of_ble_eq_true rfl⟩ (fun x M2 H locs hp hM hS => ?_)
        obtain ⟨ex, eM⟩ := hp
        rw [eM] at hM
        rw [nI_dg zf] at ex
        rw [ex]
        have hd2 : dg (F (10 * num + j / 31)) / 2 ^ (j % 31) ≤ dg (F (10 * num + j / 31)) := Nat.div_le_self _ _
        refine lv_iload hx hb dX6_multiply_30 (lv_at hl 0 rfl) ?_
        refine lv_bipush (v := nI 31) hx hb dX6_multiply_32 (by decide) ?_
        refine lv_irem hx hb dX6_multiply_34 (nI_ne0 (by omega) (by omega)) ?_
        refine r_topi C (nI (j % 31)) (pk_rem (by omega) (by omega) (by omega)) ?_
        refine lv_ishr hx hb dX6_multiply_35 ?_
        refine r_topi C (nI (dg (F (10 * num + j / 31)) / 2 ^ (j % 31))) (pk_shrN (by omega) _ (j % 31) (s_sm (j % 31) (by omega))) ?_
        refine lv_iconst (v := nI 1) hx hb dX6_multiply_36 (by decide) ?_
        refine lv_iand hx hb dX6_multiply_37 ?_
        refine r_topi C (nI (dg (F (10 * num + j / 31)) / 2 ^ (j % 31) % 2)) (pk_andN (by omega) 1 (by decide)) ?_
        rw [hbt]
        refine lv_iconst (v := nI 1) hx hb dX6_multiply_38 (by decide) ?_
        refine r_icmp_neN (tgt := 46) C (by omega) (by omega) dX6_multiply_39 (by decide) (fun hd => ?_) (fun hd => ?_)
        · refine lv_iconst (v := nI 0) hx hb dX6_multiply_46 (by decide) ?_
          refine lv_istore (lv' := [(6, .int (nI 0)), (5, .int (nI j)), (4, .int (nI bg)), (0, .ref g), (1, .int (nI to)), (2, .int (nI num)), (3, .int (nI a))]) hx hb dX6_multiply_47 hl (by decide) rfl (fun ls hl => ?_)
          refine hK H locs ls hM hS ?_
          rw [show is = 0 by omega]
          exact hl
        · refine lv_iconst (v := nI 1) hx hb dX6_multiply_42 (by decide) ?_
          refine lv_goto (tgt := 47) hx hb dX6_multiply_43 (by decide) ?_
          refine lv_istore (lv' := [(6, .int (nI 1)), (5, .int (nI j)), (4, .int (nI bg)), (0, .ref g), (1, .int (nI to)), (2, .int (nI num)), (3, .int (nI a))]) hx hb dX6_multiply_47 hl (by decide) rfl (fun ls hl => ?_)
          refine hK H locs ls hM hS ?_
          rw [show is = 1 by omega]
          exact hl
  refine lv_iconst (v := nI 0) hx hb dX6_multiply_7 (by decide) ?_
  refine lv_istore (lv' := [(4, .int (nI 0)), (0, .ref g), (1, .int (nI to)), (2, .int (nI num)), (3, .int (nI a))]) hx hb dX6_multiply_8 hl (by decide) rfl (fun ls hl => ?_)
  refine lv_sipush (v := nI 309) hx hb dX6_multiply_10 (by decide) ?_
  refine lv_istore (lv' := [(5, .int (nI 309)), (4, .int (nI 0)), (0, .ref g), (1, .int (nI to)), (2, .int (nI num)), (3, .int (nI a))]) hx hb dX6_multiply_13 hl (by decide) rfl (fun ls hl => ?_)
  refine lp 310 N (upd Z to (nI 1)) none 0 _ _ _ _ (Nat.le_refl _) hz (fun _ _ => rfl) (fun i hi => pk_un hi) ?_ (Or.inl ⟨pk_us, rfl⟩) (Or.inl ⟨rfl, Nat.div_eq_of_lt hn10⟩) hM hS ?_
  · rw [Nat.div_eq_of_lt hn10, kT_0]
  · exact hl
end NM11
