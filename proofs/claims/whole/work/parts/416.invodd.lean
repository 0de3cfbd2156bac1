section NM7
variable {p : Program} {l : Launch} {e : Env} {R : Room} {s : State} {m : MethodId} {args : Array Value} {below : List Frame} {meth : Method} {c : Code} {Q : State → Prop} {cells slots : Nat} {ret : Option FieldType} {D : va_G} {kA : Nat → ClassId} {N0 : Nat}
set_option maxRecDepth 100000 in
theorem c6_inverseOdd (l : Launch) (D : va_G) (kA : Nat → ClassId) (N0 : Nat) (M0 M : xM) (g to n t : Nat) (B : Int32 × Int32 × Int32 × Int32) (N : Nat → Nat) (hm : MN kA M0 M g B N) (hto : to < 30) (hn : n < 30) (ht : t < 30) (hto9 : to < 9 ∨ 13 < to) (hn9 : n < 9 ∨ 13 < n) (ht9 : t < 9 ∨ 13 < t) (hton : to ≠ n) (hto4 : to ≠ 4) (h4 : N 4 = 1) (hodd : N t % 2 = 1) (h1 : 1 < N t) (h9 : N t < BB ^ 9) : cI l yX6_inverseOdd wsX6_inverseOdd (xR 3) [.ref g, .int (nI to), .int (nI n), .int (nI t)] D kA N0 M (fun r M1 => ∃ N', MN kA M0 M1 g B N' ∧ (∀ k, k ≠ to → (k < 9 ∨ 13 < k) → N' k = N k) ∧ ((r = 1 ∧ inv? (N t) (N n) = some (N' to)) ∨ (r = 0 ∧ inv? (N t) (N n) = none))) := by
  obtain ⟨us, hob⟩ := hm.1
  refine r_mZ (cc := cX6_inverseOdd) (maxL := 4) (by decide) rfl (Nat.le_of_ble_eq_true rfl) ?_
  intro p e s m below meth c ls A0 Qp C hM hnm hl hend
  obtain ⟨hx, hb, hml, hown, hts, hr, hlocks, hK, hN⟩ := _root_.id C
  have hS : va_S (xA N0) s.heap s.heap [] := va_S.rf
  have hl : lv_has ls 4 [(0, .ref g), (1, .int (nI to)), (2, .int (nI n)), (3, .int (nI t))] := hl
  -- the end
  have he : ∀ (Ni : Nat → Nat) (M1 : xM) (H : Heap) (locs : List Loc) (ls : Array Slot), MN kA M0 M1 g B Ni → (∀ k, (k < 9 ∨ 13 < k) → Ni k = N k) → bvI (N t) (N n) (Ni 10) (Ni 11) (Ni 12) (Ni 13) → (Ni 10 = 0 ∨ Ni 10 = 1 ∨ Ni 11 = 1) → xW D vwCl N0 M1 H → va_S (xA N0) s.heap H locs → lv_has ls 4 [(0, .ref g), (1, .int (nI to)), (2, .int (nI n)), (3, .int (nI t))] → W p l e (xR 3) s m A0 below meth c H locs 0 0 Qp (F0 m 164 ls []) := by
    intro Ni M1 H locs ls hm1 hfr hbv hor hM hS hl
    obtain ⟨us1, hob1⟩ := hm1.1
    have h41 : Ni 4 = 1 := by rw [hfr 4 (by omega)]; exact h4
    refine lv_aload_n hx hb dX6_inverseOdd_164 rfl (lv_at hl 0 rfl) ?_
    refine lv_bipush (v := nI 10) hx hb dX6_inverseOdd_165 (by decide) ?_
    refine r_Vi (As := [.int (nI 10)]) (rest := []) C hM hS (c6_isOne l D kA N0 M0 M1 g 10 B Ni hm1 (by omega) h41) (hob1) rfl gX6_inverseOdd_X6_isOne rfl rfl rfl ⟨rfl, by decide +kernel, by decide +kernel, (by decide +kernel : (parseMethodDescriptor yX6_isOne.desc).map (fun d => d.parameters.length) = some 1)⟩ ⟨Nat.le_of_ble_eq_true rfl, Nat.le_of_ble_eq_true rfl⟩ hl.1 rfl (Nat.le_of_ble_eq_true rfl) dX6_inverseOdd_167 ⟨Nat.le_of_ble_eq_true rfl, Nat.le_of_ble_eq_true rfl⟩ (fun r M2 H locs hp hM hS => ?_)
    obtain ⟨eM, hr⟩ := hp
    rw [eM] at hM
    rcases hr with ⟨er, hr⟩ | ⟨er, hr⟩
    · rw [er]
      refine lv_if_eq (tgt := 182) hx hb dX6_inverseOdd_170 (by decide) (fun hc => ?_) (fun hc => ?_)
      · exact absurd hc (by decide)
      · refine lv_aload_n hx hb dX6_inverseOdd_173 rfl (lv_at hl 0 rfl) ?_
        refine lv_iload_n hx hb dX6_inverseOdd_174 rfl (lv_at hl 1 rfl) ?_
        refine lv_bipush (v := nI 12) hx hb dX6_inverseOdd_175 (by decide) ?_
        refine r_Vv (As := [.int (nI to), .int (nI 12)]) (rest := []) C hM hS (c6_copy l D kA N0 M0 M1 g to 12 B Ni hm1 hto (by omega)) (hob1) rfl gX6_inverseOdd_X6_copy rfl rfl rfl ⟨rfl, by decide +kernel, by decide +kernel, (by decide +kernel : (parseMethodDescriptor yX6_copy.desc).map (fun d => d.parameters.length) = some 2)⟩ ⟨Nat.le_of_ble_eq_true rfl, Nat.le_of_ble_eq_true rfl⟩ hl.1 rfl (Nat.le_of_ble_eq_true rfl) dX6_inverseOdd_177 ⟨Nat.le_of_ble_eq_true rfl, Nat.le_of_ble_eq_true rfl⟩ (fun M3 H locs hm3 hM hS => ?_)
        rw [hr] at hbv
        refine lv_iconst (v := nI 1) hx hb dX6_inverseOdd_180 (by decide) ?_
        exact hend _ _ _ _ _ _ hM hS (by decide) (⟨_, hm3, fun k k1 k2 => by rw [un_n k1]; exact hfr k k2, Or.inl ⟨rfl, by rw [un_s]; exact bvI_u1 hbv⟩⟩) dX6_inverseOdd_181
    · rw [er]
      refine lv_if_eq (tgt := 182) hx hb dX6_inverseOdd_170 (by decide) (fun hc => ?_) (fun hc => ?_)
      · refine lv_aload_n hx hb dX6_inverseOdd_182 rfl (lv_at hl 0 rfl) ?_
        refine lv_iload_n hx hb dX6_inverseOdd_183 rfl (lv_at hl 1 rfl) ?_
        refine lv_bipush (v := nI 13) hx hb dX6_inverseOdd_184 (by decide) ?_
        refine r_Vv (As := [.int (nI to), .int (nI 13)]) (rest := []) C hM hS (c6_copy l D kA N0 M0 M1 g to 13 B Ni hm1 hto (by omega)) (hob1) rfl gX6_inverseOdd_X6_copy rfl rfl rfl ⟨rfl, by decide +kernel, by decide +kernel, (by decide +kernel : (parseMethodDescriptor yX6_copy.desc).map (fun d => d.parameters.length) = some 2)⟩ ⟨Nat.le_of_ble_eq_true rfl, Nat.le_of_ble_eq_true rfl⟩ hl.1 rfl (Nat.le_of_ble_eq_true rfl) dX6_inverseOdd_186 ⟨Nat.le_of_ble_eq_true rfl, Nat.le_of_ble_eq_true rfl⟩ (fun M3 H locs hm3 hM hS => ?_)
        obtain ⟨us3, hob3⟩ := hm3.1
        have h43 : un Ni to (Ni 13) 4 = 1 := by rw [un_n hto4.symm]; exact h41
        refine lv_aload_n hx hb dX6_inverseOdd_189 rfl (lv_at hl 0 rfl) ?_
        refine lv_bipush (v := nI 11) hx hb dX6_inverseOdd_190 (by decide) ?_
        refine r_Vi (As := [.int (nI 11)]) (rest := []) C hM hS (c6_isOne l D kA N0 M0 M3 g 11 B _ hm3 (by omega) h43) (hob3) rfl gX6_inverseOdd_X6_isOne rfl rfl rfl ⟨rfl, by decide +kernel, by decide +kernel, (by decide +kernel : (parseMethodDescriptor yX6_isOne.desc).map (fun d => d.parameters.length) = some 1)⟩ ⟨Nat.le_of_ble_eq_true rfl, Nat.le_of_ble_eq_true rfl⟩ hl.1 rfl (Nat.le_of_ble_eq_true rfl) dX6_inverseOdd_192 ⟨Nat.le_of_ble_eq_true rfl, Nat.le_of_ble_eq_true rfl⟩ (fun r3 M4 H locs hp hM hS => ?_)
        obtain ⟨eM4, hr4⟩ := hp
        rw [eM4] at hM
        rw [un_n (by omega)] at hr4
        rcases hr4 with ⟨er4, hr4⟩ | ⟨er4, hr4⟩
        · rw [er4]
          rw [hr4] at hbv
          have ha0 := bvI_v1a h1 hbv
          refine lv_if_eq (tgt := 210) hx hb dX6_inverseOdd_195 (by decide) (fun hd => ?_) (fun hd => ?_)
          · exact absurd hd (by decide)
          · refine lv_aload_n hx hb dX6_inverseOdd_198 rfl (lv_at hl 0 rfl) ?_
            refine lv_iload_n hx hb dX6_inverseOdd_199 rfl (lv_at hl 2 rfl) ?_
            refine r_Vi (As := [.int (nI n)]) (rest := []) C hM hS (c6_isZero l D kA N0 M0 M3 g n B _ hm3 hn) (hob3) rfl gX6_inverseOdd_X6_isZero rfl rfl rfl ⟨rfl, by decide +kernel, by decide +kernel, (by decide +kernel : (parseMethodDescriptor yX6_isZero.desc).map (fun d => d.parameters.length) = some 1)⟩ ⟨Nat.le_of_ble_eq_true rfl, Nat.le_of_ble_eq_true rfl⟩ hl.1 rfl (Nat.le_of_ble_eq_true rfl) dX6_inverseOdd_200 ⟨Nat.le_of_ble_eq_true rfl, Nat.le_of_ble_eq_true rfl⟩ (fun r5 M5 H locs hp hM hS => ?_)
            obtain ⟨eM5, hr5⟩ := hp
            rw [eM5] at hM
            rw [un_n hton.symm, hfr n hn9] at hr5
            have hr5 : r5 = 0 := by
              rcases hr5 with ⟨a1, a2⟩ | ⟨a1, a2⟩
              · exact absurd a2 ha0
              · exact a1
            rw [hr5]
            refine lv_if_ne (tgt := 210) hx hb dX6_inverseOdd_203 (by decide) (fun hf => ?_) (fun hf => ?_)
            · exact absurd rfl hf
            · refine lv_iconst (v := nI 1) hx hb dX6_inverseOdd_206 (by decide) ?_
              refine lv_goto (tgt := 211) hx hb dX6_inverseOdd_207 (by decide) ?_
              exact hend _ _ _ _ _ _ hM hS (by decide) (⟨_, hm3, fun k k1 k2 => by rw [un_n k1]; exact hfr k k2, Or.inl ⟨rfl, by rw [un_s]; exact bvI_v1 hbv⟩⟩) dX6_inverseOdd_211
        · rw [er4]
          have hu0 : Ni 10 = 0 := by omega
          rw [hu0] at hbv
          refine lv_if_eq (tgt := 210) hx hb dX6_inverseOdd_195 (by decide) (fun hd => ?_) (fun hd => ?_)
          · refine lv_iconst (v := nI 0) hx hb dX6_inverseOdd_210 (by decide) ?_
            exact hend _ _ _ _ _ _ hM hS (by decide) (⟨_, hm3, fun k k1 k2 => by rw [un_n k1]; exact hfr k k2, Or.inr ⟨rfl, bvI_no (by omega) hr4 hbv⟩⟩) dX6_inverseOdd_211
          · exact absurd rfl hd
      · exact absurd rfl hc
  -- the loop
  have lp : ∀ (w : Nat) (Ni : Nat → Nat) (M1 : xM) (H : Heap) (locs : List Loc) (ls : Array Slot), Ni 10 + Ni 11 ≤ w → MN kA M0 M1 g B Ni → (∀ k, (k < 9 ∨ 13 < k) → Ni k = N k) → bvI (N t) (N n) (Ni 10) (Ni 11) (Ni 12) (Ni 13) → xW D vwCl N0 M1 H → va_S (xA N0) s.heap H locs → lv_has ls 4 [(0, .ref g), (1, .int (nI to)), (2, .int (nI n)), (3, .int (nI t))] → W p l e (xR 3) s m A0 below meth c H locs 0 0 Qp (F0 m 28 ls []) := by
    intro w
    induction w with
    | zero =>
      intro Ni M1 H locs ls hw hm1 hfr hbv hM hS hl
      have := hbv.2.2.1
      omega
    | succ w ih =>
      intro Ni M1 H locs ls hw hm1 hfr hbv hM hS hl
      -- both are odd
      have hC : ∀ (Ni : Nat → Nat) (M1 : xM) (H : Heap) (locs : List Loc) (ls : Array Slot), Ni 10 + Ni 11 ≤ w + 1 → Ni 10 % 2 = 1 → Ni 11 % 2 = 1 → MN kA M0 M1 g B Ni → (∀ k, (k < 9 ∨ 13 < k) → Ni k = N k) → bvI (N t) (N n) (Ni 10) (Ni 11) (Ni 12) (Ni 13) → xW D vwCl N0 M1 H → va_S (xA N0) s.heap H locs → lv_has ls 4 [(0, .ref g), (1, .int (nI to)), (2, .int (nI n)), (3, .int (nI t))] → W p l e (xR 3) s m A0 below meth c H locs 0 0 Qp (F0 m 105 ls []) := by
        intro Ni M1 H locs ls hw ou ov hm1 hfr hbv hM hS hl
        obtain ⟨us1, hob1⟩ := hm1.1
        refine lv_aload_n hx hb dX6_inverseOdd_105 rfl (lv_at hl 0 rfl) ?_
        refine lv_bipush (v := nI 10) hx hb dX6_inverseOdd_106 (by decide) ?_
        refine lv_bipush (v := nI 11) hx hb dX6_inverseOdd_108 (by decide) ?_
        refine r_Vi (As := [.int (nI 10), .int (nI 11)]) (rest := []) C hM hS (c6_compare l D kA N0 M0 M1 g 10 11 B Ni hm1 (by omega) (by omega)) (hob1) rfl gX6_inverseOdd_X6_compare rfl rfl rfl ⟨rfl, by decide +kernel, by decide +kernel, (by decide +kernel : (parseMethodDescriptor yX6_compare.desc).map (fun d => d.parameters.length) = some 2)⟩ ⟨Nat.le_of_ble_eq_true rfl, Nat.le_of_ble_eq_true rfl⟩ hl.1 rfl (Nat.le_of_ble_eq_true rfl) dX6_inverseOdd_110 ⟨Nat.le_of_ble_eq_true rfl, Nat.le_of_ble_eq_true rfl⟩ (fun r M2 H locs hp hM hS => ?_)
        obtain ⟨eM, hr⟩ := hp
        rw [eM] at hM
        by_cases hge : Ni 11 ≤ Ni 10
        · have hr0 : ¬ r < 0 := by
            rcases hr with ⟨er, hr⟩ | ⟨er, hr⟩ | ⟨er, hr⟩
            · rw [er]; decide
            · omega
            · rw [er]; decide
          refine lv_if_lt (tgt := 140) hx hb dX6_inverseOdd_113 (by decide) (fun hc => ?_) (fun hc => ?_)
          · exact absurd hc hr0
          · refine lv_aload_n hx hb dX6_inverseOdd_116 rfl (lv_at hl 0 rfl) ?_
            refine lv_bipush (v := nI 10) hx hb dX6_inverseOdd_117 (by decide) ?_
            refine lv_bipush (v := nI 10) hx hb dX6_inverseOdd_119 (by decide) ?_
            refine lv_bipush (v := nI 11) hx hb dX6_inverseOdd_121 (by decide) ?_
            refine r_Vv (As := [.int (nI 10), .int (nI 10), .int (nI 11)]) (rest := []) C hM hS (c6_minus l D kA N0 M0 M1 g 10 10 11 B Ni hm1 (by omega) (by omega) (by omega) hge) (hob1) rfl gX6_inverseOdd_X6_minus rfl rfl rfl ⟨rfl, by decide +kernel, by decide +kernel, (by decide +kernel : (parseMethodDescriptor yX6_minus.desc).map (fun d => d.parameters.length) = some 3)⟩ ⟨Nat.le_of_ble_eq_true rfl, Nat.le_of_ble_eq_true rfl⟩ hl.1 rfl (Nat.le_of_ble_eq_true rfl) dX6_inverseOdd_123 ⟨Nat.le_of_ble_eq_true rfl, Nat.le_of_ble_eq_true rfl⟩ (fun M3 H locs hm3 hM hS => ?_)
            obtain ⟨us3, hob3⟩ := hm3.1
            have et : un Ni 10 (Ni 10 - Ni 11) t = N t := by rw [un_n (by omega)]; exact hfr t ht9
            have e12 : un Ni 10 (Ni 10 - Ni 11) 12 = Ni 12 := un_n (by omega)
            have e13 : un Ni 10 (Ni 10 - Ni 11) 13 = Ni 13 := un_n (by omega)
            refine lv_aload_n hx hb dX6_inverseOdd_126 rfl (lv_at hl 0 rfl) ?_
            refine lv_bipush (v := nI 12) hx hb dX6_inverseOdd_127 (by decide) ?_
            refine lv_bipush (v := nI 12) hx hb dX6_inverseOdd_129 (by decide) ?_
            refine lv_bipush (v := nI 13) hx hb dX6_inverseOdd_131 (by decide) ?_
            refine lv_iload_n hx hb dX6_inverseOdd_133 rfl (lv_at hl 3 rfl) ?_
            refine r_Vv (As := [.int (nI 12), .int (nI 12), .int (nI 13), .int (nI t)]) (rest := []) C hM hS (c6_difference l D kA N0 M0 M3 g 12 12 13 t B _ hm3 (by omega) (by omega) (by omega) ht (by omega) (by rw [et, e12]; exact hbv.1) (by rw [et, e13]; exact hbv.2.1) (by rw [et]; exact h9)) (hob3) rfl gX6_inverseOdd_X6_difference rfl rfl rfl ⟨rfl, by decide +kernel, by decide +kernel, (by decide +kernel : (parseMethodDescriptor yX6_difference.desc).map (fun d => d.parameters.length) = some 4)⟩ ⟨Nat.le_of_ble_eq_true rfl, Nat.le_of_ble_eq_true rfl⟩ hl.1 rfl (Nat.le_of_ble_eq_true rfl) dX6_inverseOdd_134 ⟨Nat.le_of_ble_eq_true rfl, Nat.le_of_ble_eq_true rfl⟩ (fun M4 H locs hp hM hS => ?_)
            obtain ⟨z, hm4⟩ := hp
            rw [et, e12, e13] at hm4
            refine lv_goto (tgt := 28) hx hb dX6_inverseOdd_137 (by decide) ?_
            refine ih _ _ H locs ls ?_ hm4 (fun k hk => ?_) ?_ hM hS hl
            · rw [un_n (by omega), un_n (by omega), un_s, un_n (by omega), un_n (by omega), un_n (by omega)]
              omega
            · rw [un_n (by omega), un_n (by omega), un_n (by omega)]
              exact hfr k hk
            · rw [un_s, un_n (by omega), un_n (by omega), un_s, un_n (by omega), un_n (by omega), un_n (by omega), un_n (by omega), un_n (by omega), un_n (by omega)]
              exact bvI_su ov hge hbv
        · have hr0 : r < 0 := by
            rcases hr with ⟨er, hr⟩ | ⟨er, hr⟩ | ⟨er, hr⟩
            · omega
            · rw [er]; decide
            · omega
          refine lv_if_lt (tgt := 140) hx hb dX6_inverseOdd_113 (by decide) (fun hc => ?_) (fun hc => ?_)
          · refine lv_aload_n hx hb dX6_inverseOdd_140 rfl (lv_at hl 0 rfl) ?_
            refine lv_bipush (v := nI 11) hx hb dX6_inverseOdd_141 (by decide) ?_
            refine lv_bipush (v := nI 11) hx hb dX6_inverseOdd_143 (by decide) ?_
            refine lv_bipush (v := nI 10) hx hb dX6_inverseOdd_145 (by decide) ?_
            refine r_Vv (As := [.int (nI 11), .int (nI 11), .int (nI 10)]) (rest := []) C hM hS (c6_minus l D kA N0 M0 M1 g 11 11 10 B Ni hm1 (by omega) (by omega) (by omega) (by omega)) (hob1) rfl gX6_inverseOdd_X6_minus rfl rfl rfl ⟨rfl, by decide +kernel, by decide +kernel, (by decide +kernel : (parseMethodDescriptor yX6_minus.desc).map (fun d => d.parameters.length) = some 3)⟩ ⟨Nat.le_of_ble_eq_true rfl, Nat.le_of_ble_eq_true rfl⟩ hl.1 rfl (Nat.le_of_ble_eq_true rfl) dX6_inverseOdd_147 ⟨Nat.le_of_ble_eq_true rfl, Nat.le_of_ble_eq_true rfl⟩ (fun M3 H locs hm3 hM hS => ?_)
            obtain ⟨us3, hob3⟩ := hm3.1
            have et : un Ni 11 (Ni 11 - Ni 10) t = N t := by rw [un_n (by omega)]; exact hfr t ht9
            have e12 : un Ni 11 (Ni 11 - Ni 10) 12 = Ni 12 := un_n (by omega)
            have e13 : un Ni 11 (Ni 11 - Ni 10) 13 = Ni 13 := un_n (by omega)
            refine lv_aload_n hx hb dX6_inverseOdd_150 rfl (lv_at hl 0 rfl) ?_
            refine lv_bipush (v := nI 13) hx hb dX6_inverseOdd_151 (by decide) ?_
            refine lv_bipush (v := nI 13) hx hb dX6_inverseOdd_153 (by decide) ?_
            refine lv_bipush (v := nI 12) hx hb dX6_inverseOdd_155 (by decide) ?_
            refine lv_iload_n hx hb dX6_inverseOdd_157 rfl (lv_at hl 3 rfl) ?_
            refine r_Vv (As := [.int (nI 13), .int (nI 13), .int (nI 12), .int (nI t)]) (rest := []) C hM hS (c6_difference l D kA N0 M0 M3 g 13 13 12 t B _ hm3 (by omega) (by omega) (by omega) ht (by omega) (by rw [et, e13]; exact hbv.2.1) (by rw [et, e12]; exact hbv.1) (by rw [et]; exact h9)) (hob3) rfl gX6_inverseOdd_X6_difference rfl rfl rfl ⟨rfl, by decide +kernel, by decide +kernel, (by decide +kernel : (parseMethodDescriptor yX6_difference.desc).map (fun d => d.parameters.length) = some 4)⟩ ⟨Nat.le_of_ble_eq_true rfl, Nat.le_of_ble_eq_true rfl⟩ hl.1 rfl (Nat.le_of_ble_eq_true rfl) dX6_inverseOdd_158 ⟨Nat.le_of_ble_eq_true rfl, Nat.le_of_ble_eq_true rfl⟩ (fun M4 H locs hp hM hS => ?_)
            obtain ⟨z, hm4⟩ := hp
            rw [et, e12, e13] at hm4
            refine lv_goto (tgt := 28) hx hb dX6_inverseOdd_161 (by decide) ?_
            refine ih _ _ H locs ls ?_ hm4 (fun k hk => ?_) ?_ hM hS hl
            · rw [un_n (by omega), un_n (by omega), un_n (by omega), un_n (by omega), un_n (by omega), un_s]
              omega
            · rw [un_n (by omega), un_n (by omega), un_n (by omega)]
              exact hfr k hk
            · rw [un_s, un_n (by omega), un_n (by omega), un_n (by omega), un_n (by omega), un_n (by omega), un_s, un_n (by omega), un_n (by omega), un_n (by omega)]
              exact bvI_sv ou (by omega) hbv
          · exact absurd hr0 hc
      have hVl : ∀ (j : Nat) (Ni : Nat → Nat) (M1 : xM) (H : Heap) (locs : List Loc) (ls : Array Slot), Ni 11 ≤ j → Ni 10 + Ni 11 ≤ w + 1 → Ni 10 % 2 = 1 → MN kA M0 M1 g B Ni → (∀ k, (k < 9 ∨ 13 < k) → Ni k = N k) → bvI (N t) (N n) (Ni 10) (Ni 11) (Ni 12) (Ni 13) → xW D vwCl N0 M1 H → va_S (xA N0) s.heap H locs → lv_has ls 4 [(0, .ref g), (1, .int (nI to)), (2, .int (nI n)), (3, .int (nI t))] → W p l e (xR 3) s m A0 below meth c H locs 0 0 Qp (F0 m 80 ls []) := by
        intro j
        induction j with
        | zero =>
          intro Ni M1 H locs ls hj hw ou hm1 hfr hbv hM hS hl
          have := hbv.2.2.1
          omega
        | succ j ihj =>
          intro Ni M1 H locs ls hj hw ou hm1 hfr hbv hM hS hl
          have hv0 := hbv.2.2.1
          obtain ⟨us1, hob1⟩ := hm1.1
          refine lv_aload_n hx hb dX6_inverseOdd_80 rfl (lv_at hl 0 rfl) ?_
          refine lv_bipush (v := nI 11) hx hb dX6_inverseOdd_81 (by decide) ?_
          refine r_Vi (As := [.int (nI 11)]) (rest := []) C hM hS (c6_isOdd l D kA N0 M0 M1 g 11 B Ni hm1 (by omega)) (hob1) rfl gX6_inverseOdd_X6_isOdd rfl rfl rfl ⟨rfl, by decide +kernel, by decide +kernel, (by decide +kernel : (parseMethodDescriptor yX6_isOdd.desc).map (fun d => d.parameters.length) = some 1)⟩ ⟨Nat.le_of_ble_eq_true rfl, Nat.le_of_ble_eq_true rfl⟩ hl.1 rfl (Nat.le_of_ble_eq_true rfl) dX6_inverseOdd_83 ⟨Nat.le_of_ble_eq_true rfl, Nat.le_of_ble_eq_true rfl⟩ (fun r M2 H locs hp hM hS => ?_)
          obtain ⟨eM, hr⟩ := hp
          rw [eM] at hM
          rcases hr with ⟨er, hr⟩ | ⟨er, hr⟩
          · rw [er]
            refine lv_if_ne (tgt := 105) hx hb dX6_inverseOdd_86 (by decide) (fun hc => ?_) (fun hc => ?_)
            · exact hC Ni M1 H locs ls hw ou hr hm1 hfr hbv hM hS hl
            · first | exact absurd hc (by decide) | exact absurd (by decide) hc
          · rw [er]
            refine lv_if_ne (tgt := 105) hx hb dX6_inverseOdd_86 (by decide) (fun hc => ?_) (fun hc => ?_)
            · exact absurd rfl hc
            · refine lv_aload_n hx hb dX6_inverseOdd_89 rfl (lv_at hl 0 rfl) ?_
              refine lv_bipush (v := nI 11) hx hb dX6_inverseOdd_90 (by decide) ?_
              refine r_Vv (As := [.int (nI 11)]) (rest := []) C hM hS (c6_halve l D kA N0 M0 M1 g 11 B Ni hm1 (by omega)) (hob1) rfl gX6_inverseOdd_X6_halve rfl rfl rfl ⟨rfl, by decide +kernel, by decide +kernel, (by decide +kernel : (parseMethodDescriptor yX6_halve.desc).map (fun d => d.parameters.length) = some 1)⟩ ⟨Nat.le_of_ble_eq_true rfl, Nat.le_of_ble_eq_true rfl⟩ hl.1 rfl (Nat.le_of_ble_eq_true rfl) dX6_inverseOdd_92 ⟨Nat.le_of_ble_eq_true rfl, Nat.le_of_ble_eq_true rfl⟩ (fun M3 H locs hm3 hM hS => ?_)
              obtain ⟨us3, hob3⟩ := hm3.1
              have et : un Ni 11 (Ni 11 / 2) t = N t := by rw [un_n (by omega)]; exact hfr t ht9
              have e13 : un Ni 11 (Ni 11 / 2) 13 = Ni 13 := un_n (by omega)
              refine lv_aload_n hx hb dX6_inverseOdd_95 rfl (lv_at hl 0 rfl) ?_
              refine lv_bipush (v := nI 13) hx hb dX6_inverseOdd_96 (by decide) ?_
              refine lv_iload_n hx hb dX6_inverseOdd_98 rfl (lv_at hl 3 rfl) ?_
              refine r_Vv (As := [.int (nI 13), .int (nI t)]) (rest := []) C hM hS (c6_halveModulo l D kA N0 M0 M3 g 13 t B _ hm3 (by omega) ht (by rw [et, e13]; exact hbv.2.1) (by rw [et]; exact h9)) (hob3) rfl gX6_inverseOdd_X6_halveModulo rfl rfl rfl ⟨rfl, by decide +kernel, by decide +kernel, (by decide +kernel : (parseMethodDescriptor yX6_halveModulo.desc).map (fun d => d.parameters.length) = some 2)⟩ ⟨Nat.le_of_ble_eq_true rfl, Nat.le_of_ble_eq_true rfl⟩ hl.1 rfl (Nat.le_of_ble_eq_true rfl) dX6_inverseOdd_99 ⟨Nat.le_of_ble_eq_true rfl, Nat.le_of_ble_eq_true rfl⟩ (fun M4 H locs hm4 hM hS => ?_)
              rw [et, e13] at hm4
              refine lv_goto (tgt := 80) hx hb dX6_inverseOdd_102 (by decide) ?_
              refine ihj _ _ H locs ls ?_ ?_ ?_ hm4 (fun k hk => ?_) ?_ hM hS hl
              · rw [un_n (by omega), un_s]; omega
              · rw [un_n (by omega), un_n (by omega), un_n (by omega), un_s]; omega
              · rw [un_n (by omega), un_n (by omega)]; exact ou
              · rw [un_n (by omega), un_n (by omega)]; exact hfr k hk
              · rw [un_s, un_n (by omega), un_n (by omega), un_n (by omega), un_s, un_n (by omega), un_n (by omega)]
                exact bvI_hv hodd ou (by omega) hbv
      have hUl : ∀ (j : Nat) (Ni : Nat → Nat) (M1 : xM) (H : Heap) (locs : List Loc) (ls : Array Slot), Ni 10 ≤ j → 0 < Ni 10 → Ni 10 + Ni 11 ≤ w + 1 → MN kA M0 M1 g B Ni → (∀ k, (k < 9 ∨ 13 < k) → Ni k = N k) → bvI (N t) (N n) (Ni 10) (Ni 11) (Ni 12) (Ni 13) → xW D vwCl N0 M1 H → va_S (xA N0) s.heap H locs → lv_has ls 4 [(0, .ref g), (1, .int (nI to)), (2, .int (nI n)), (3, .int (nI t))] → W p l e (xR 3) s m A0 below meth c H locs 0 0 Qp (F0 m 55 ls []) := by
        intro j
        induction j with
        | zero =>
          intro Ni M1 H locs ls hj hu0 hw hm1 hfr hbv hM hS hl
          omega
        | succ j ihj =>
          intro Ni M1 H locs ls hj hu0 hw hm1 hfr hbv hM hS hl
          obtain ⟨us1, hob1⟩ := hm1.1
          refine lv_aload_n hx hb dX6_inverseOdd_55 rfl (lv_at hl 0 rfl) ?_
          refine lv_bipush (v := nI 10) hx hb dX6_inverseOdd_56 (by decide) ?_
          refine r_Vi (As := [.int (nI 10)]) (rest := []) C hM hS (c6_isOdd l D kA N0 M0 M1 g 10 B Ni hm1 (by omega)) (hob1) rfl gX6_inverseOdd_X6_isOdd rfl rfl rfl ⟨rfl, by decide +kernel, by decide +kernel, (by decide +kernel : (parseMethodDescriptor yX6_isOdd.desc).map (fun d => d.parameters.length) = some 1)⟩ ⟨Nat.le_of_ble_eq_true rfl, Nat.le_of_ble_eq_true rfl⟩ hl.1 rfl (Nat.le_of_ble_eq_true rfl) dX6_inverseOdd_58 ⟨Nat.le_of_ble_eq_true rfl, Nat.le_of_ble_eq_true rfl⟩ (fun r M2 H locs hp hM hS => ?_)
          obtain ⟨eM, hr⟩ := hp
          rw [eM] at hM
          rcases hr with ⟨er, hr⟩ | ⟨er, hr⟩
          · rw [er]
            refine lv_if_ne (tgt := 80) hx hb dX6_inverseOdd_61 (by decide) (fun hc => ?_) (fun hc => ?_)
            · exact hVl _ Ni M1 H locs ls (Nat.le_refl _) hw hr hm1 hfr hbv hM hS hl
            · first | exact absurd hc (by decide) | exact absurd (by decide) hc
          · rw [er]
            refine lv_if_ne (tgt := 80) hx hb dX6_inverseOdd_61 (by decide) (fun hc => ?_) (fun hc => ?_)
            · exact absurd rfl hc
            · refine lv_aload_n hx hb dX6_inverseOdd_64 rfl (lv_at hl 0 rfl) ?_
              refine lv_bipush (v := nI 10) hx hb dX6_inverseOdd_65 (by decide) ?_
              refine r_Vv (As := [.int (nI 10)]) (rest := []) C hM hS (c6_halve l D kA N0 M0 M1 g 10 B Ni hm1 (by omega)) (hob1) rfl gX6_inverseOdd_X6_halve rfl rfl rfl ⟨rfl, by decide +kernel, by decide +kernel, (by decide +kernel : (parseMethodDescriptor yX6_halve.desc).map (fun d => d.parameters.length) = some 1)⟩ ⟨Nat.le_of_ble_eq_true rfl, Nat.le_of_ble_eq_true rfl⟩ hl.1 rfl (Nat.le_of_ble_eq_true rfl) dX6_inverseOdd_67 ⟨Nat.le_of_ble_eq_true rfl, Nat.le_of_ble_eq_true rfl⟩ (fun M3 H locs hm3 hM hS => ?_)
              obtain ⟨us3, hob3⟩ := hm3.1
              have et : un Ni 10 (Ni 10 / 2) t = N t := by rw [un_n (by omega)]; exact hfr t ht9
              have e12 : un Ni 10 (Ni 10 / 2) 12 = Ni 12 := un_n (by omega)
              refine lv_aload_n hx hb dX6_inverseOdd_70 rfl (lv_at hl 0 rfl) ?_
              refine lv_bipush (v := nI 12) hx hb dX6_inverseOdd_71 (by decide) ?_
              refine lv_iload_n hx hb dX6_inverseOdd_73 rfl (lv_at hl 3 rfl) ?_
              refine r_Vv (As := [.int (nI 12), .int (nI t)]) (rest := []) C hM hS (c6_halveModulo l D kA N0 M0 M3 g 12 t B _ hm3 (by omega) ht (by rw [et, e12]; exact hbv.1) (by rw [et]; exact h9)) (hob3) rfl gX6_inverseOdd_X6_halveModulo rfl rfl rfl ⟨rfl, by decide +kernel, by decide +kernel, (by decide +kernel : (parseMethodDescriptor yX6_halveModulo.desc).map (fun d => d.parameters.length) = some 2)⟩ ⟨Nat.le_of_ble_eq_true rfl, Nat.le_of_ble_eq_true rfl⟩ hl.1 rfl (Nat.le_of_ble_eq_true rfl) dX6_inverseOdd_74 ⟨Nat.le_of_ble_eq_true rfl, Nat.le_of_ble_eq_true rfl⟩ (fun M4 H locs hm4 hM hS => ?_)
              rw [et, e12] at hm4
              refine lv_goto (tgt := 55) hx hb dX6_inverseOdd_77 (by decide) ?_
              refine ihj _ _ H locs ls ?_ ?_ ?_ hm4 (fun k hk => ?_) ?_ hM hS hl
              · rw [un_n (by omega), un_s]; omega
              · rw [un_n (by omega), un_s]; omega
              · rw [un_n (by omega), un_s, un_n (by omega), un_n (by omega)]; omega
              · rw [un_n (by omega), un_n (by omega)]; exact hfr k hk
              · rw [un_s, un_n (by omega), un_s, un_n (by omega), un_n (by omega), un_n (by omega), un_n (by omega)]
                exact bvI_hu hodd (by omega) hbv
      obtain ⟨us1, hob1⟩ := hm1.1
      have h41 : Ni 4 = 1 := by rw [hfr 4 (by omega)]; exact h4
      refine lv_aload_n hx hb dX6_inverseOdd_28 rfl (lv_at hl 0 rfl) ?_
      refine lv_bipush (v := nI 10) hx hb dX6_inverseOdd_29 (by decide) ?_
      refine r_Vi (As := [.int (nI 10)]) (rest := []) C hM hS (c6_isZero l D kA N0 M0 M1 g 10 B Ni hm1 (by omega)) (hob1) rfl gX6_inverseOdd_X6_isZero rfl rfl rfl ⟨rfl, by decide +kernel, by decide +kernel, (by decide +kernel : (parseMethodDescriptor yX6_isZero.desc).map (fun d => d.parameters.length) = some 1)⟩ ⟨Nat.le_of_ble_eq_true rfl, Nat.le_of_ble_eq_true rfl⟩ hl.1 rfl (Nat.le_of_ble_eq_true rfl) dX6_inverseOdd_31 ⟨Nat.le_of_ble_eq_true rfl, Nat.le_of_ble_eq_true rfl⟩ (fun r M2 H locs hp hM hS => ?_)
      obtain ⟨eM, hr⟩ := hp
      rw [eM] at hM
      rcases hr with ⟨er, hr⟩ | ⟨er, hr⟩
      · rw [er]
        refine lv_if_ne (tgt := 164) hx hb dX6_inverseOdd_34 (by decide) (fun hc => ?_) (fun hc => ?_)
        · exact he Ni M1 H locs ls hm1 hfr hbv (Or.inl hr) hM hS hl
        · first | exact absurd hc (by decide) | exact absurd (by decide) hc
      · rw [er]
        refine lv_if_ne (tgt := 164) hx hb dX6_inverseOdd_34 (by decide) (fun hc => ?_) (fun hc => ?_)
        · exact absurd rfl hc
        · refine lv_aload_n hx hb dX6_inverseOdd_37 rfl (lv_at hl 0 rfl) ?_
          refine lv_bipush (v := nI 10) hx hb dX6_inverseOdd_38 (by decide) ?_
          refine r_Vi (As := [.int (nI 10)]) (rest := []) C hM hS (c6_isOne l D kA N0 M0 M1 g 10 B Ni hm1 (by omega) h41) (hob1) rfl gX6_inverseOdd_X6_isOne rfl rfl rfl ⟨rfl, by decide +kernel, by decide +kernel, (by decide +kernel : (parseMethodDescriptor yX6_isOne.desc).map (fun d => d.parameters.length) = some 1)⟩ ⟨Nat.le_of_ble_eq_true rfl, Nat.le_of_ble_eq_true rfl⟩ hl.1 rfl (Nat.le_of_ble_eq_true rfl) dX6_inverseOdd_40 ⟨Nat.le_of_ble_eq_true rfl, Nat.le_of_ble_eq_true rfl⟩ (fun r2 M3 H locs hp hM hS => ?_)
          obtain ⟨eM3, hr3⟩ := hp
          rw [eM3] at hM
          rcases hr3 with ⟨er3, hr3⟩ | ⟨er3, hr3⟩
          · rw [er3]
            refine lv_if_ne (tgt := 164) hx hb dX6_inverseOdd_43 (by decide) (fun hd => ?_) (fun hd => ?_)
            · exact he Ni M1 H locs ls hm1 hfr hbv (Or.inr (Or.inl hr3)) hM hS hl
            · first | exact absurd hd (by decide) | exact absurd (by decide) hd
          · rw [er3]
            refine lv_if_ne (tgt := 164) hx hb dX6_inverseOdd_43 (by decide) (fun hd => ?_) (fun hd => ?_)
            · exact absurd rfl hd
            · refine lv_aload_n hx hb dX6_inverseOdd_46 rfl (lv_at hl 0 rfl) ?_
              refine lv_bipush (v := nI 11) hx hb dX6_inverseOdd_47 (by decide) ?_
              refine r_Vi (As := [.int (nI 11)]) (rest := []) C hM hS (c6_isOne l D kA N0 M0 M1 g 11 B Ni hm1 (by omega) h41) (hob1) rfl gX6_inverseOdd_X6_isOne rfl rfl rfl ⟨rfl, by decide +kernel, by decide +kernel, (by decide +kernel : (parseMethodDescriptor yX6_isOne.desc).map (fun d => d.parameters.length) = some 1)⟩ ⟨Nat.le_of_ble_eq_true rfl, Nat.le_of_ble_eq_true rfl⟩ hl.1 rfl (Nat.le_of_ble_eq_true rfl) dX6_inverseOdd_49 ⟨Nat.le_of_ble_eq_true rfl, Nat.le_of_ble_eq_true rfl⟩ (fun r4 M4 H locs hp hM hS => ?_)
              obtain ⟨eM4, hr4⟩ := hp
              rw [eM4] at hM
              rcases hr4 with ⟨er4, hr4⟩ | ⟨er4, hr4⟩
              · rw [er4]
                refine lv_if_ne (tgt := 164) hx hb dX6_inverseOdd_52 (by decide) (fun hf => ?_) (fun hf => ?_)
                · exact he Ni M1 H locs ls hm1 hfr hbv (Or.inr (Or.inr hr4)) hM hS hl
                · first | exact absurd hf (by decide) | exact absurd (by decide) hf
              · rw [er4]
                refine lv_if_ne (tgt := 164) hx hb dX6_inverseOdd_52 (by decide) (fun hf => ?_) (fun hf => ?_)
                · exact absurd rfl hf
                · exact hUl _ Ni M1 H locs ls (Nat.le_refl _) (by omega) hw hm1 hfr hbv hM hS hl
  refine lv_aload_n hx hb dX6_inverseOdd_0 rfl (lv_at hl 0 rfl) ?_
  refine lv_bipush (v := nI 10) hx hb dX6_inverseOdd_1 (by decide) ?_
  refine lv_iload_n hx hb dX6_inverseOdd_3 rfl (lv_at hl 2 rfl) ?_
  refine r_Vv (As := [.int (nI 10), .int (nI n)]) (rest := []) C hM hS (c6_copy l D kA N0 M0 M g 10 n B N hm (by omega) hn) (hob) rfl gX6_inverseOdd_X6_copy rfl rfl rfl ⟨rfl, by decide +kernel, by decide +kernel, (by decide +kernel : (parseMethodDescriptor yX6_copy.desc).map (fun d => d.parameters.length) = some 2)⟩ ⟨Nat.le_of_ble_eq_true rfl, Nat.le_of_ble_eq_true rfl⟩ hl.1 rfl (Nat.le_of_ble_eq_true rfl) dX6_inverseOdd_4 ⟨Nat.le_of_ble_eq_true rfl, Nat.le_of_ble_eq_true rfl⟩ (fun M1 H locs hm1 hM hS => ?_)
  obtain ⟨us1, hob1⟩ := hm1.1
  refine lv_aload_n hx hb dX6_inverseOdd_7 rfl (lv_at hl 0 rfl) ?_
  refine lv_bipush (v := nI 11) hx hb dX6_inverseOdd_8 (by decide) ?_
  refine lv_iload_n hx hb dX6_inverseOdd_10 rfl (lv_at hl 3 rfl) ?_
  refine r_Vv (As := [.int (nI 11), .int (nI t)]) (rest := []) C hM hS (c6_copy l D kA N0 M0 M1 g 11 t B _ hm1 (by omega) ht) (hob1) rfl gX6_inverseOdd_X6_copy rfl rfl rfl ⟨rfl, by decide +kernel, by decide +kernel, (by decide +kernel : (parseMethodDescriptor yX6_copy.desc).map (fun d => d.parameters.length) = some 2)⟩ ⟨Nat.le_of_ble_eq_true rfl, Nat.le_of_ble_eq_true rfl⟩ hl.1 rfl (Nat.le_of_ble_eq_true rfl) dX6_inverseOdd_11 ⟨Nat.le_of_ble_eq_true rfl, Nat.le_of_ble_eq_true rfl⟩ (fun M2 H locs hm2 hM hS => ?_)
  obtain ⟨us2, hob2⟩ := hm2.1
  rw [un_n (show t ≠ 10 by omega)] at hm2
  refine lv_aload_n hx hb dX6_inverseOdd_14 rfl (lv_at hl 0 rfl) ?_
  refine lv_bipush (v := nI 12) hx hb dX6_inverseOdd_15 (by decide) ?_
  refine lv_iconst (v := nI 1) hx hb dX6_inverseOdd_17 (by decide) ?_
  refine r_Vv (As := [.int (nI 12), .int (nI 1)]) (rest := []) C hM hS (c6_small l D kA N0 M0 M2 g 12 1 B _ hm2 (by omega) (by omega)) (hob2) rfl gX6_inverseOdd_X6_small rfl rfl rfl ⟨rfl, by decide +kernel, by decide +kernel, (by decide +kernel : (parseMethodDescriptor yX6_small.desc).map (fun d => d.parameters.length) = some 2)⟩ ⟨Nat.le_of_ble_eq_true rfl, Nat.le_of_ble_eq_true rfl⟩ hl.1 rfl (Nat.le_of_ble_eq_true rfl) dX6_inverseOdd_18 ⟨Nat.le_of_ble_eq_true rfl, Nat.le_of_ble_eq_true rfl⟩ (fun M3 H locs hm3 hM hS => ?_)
  obtain ⟨us3, hob3⟩ := hm3.1
  refine lv_aload_n hx hb dX6_inverseOdd_21 rfl (lv_at hl 0 rfl) ?_
  refine lv_bipush (v := nI 13) hx hb dX6_inverseOdd_22 (by decide) ?_
  refine lv_iconst (v := nI 0) hx hb dX6_inverseOdd_24 (by decide) ?_
  refine r_Vv (As := [.int (nI 13), .int (nI 0)]) (rest := []) C hM hS (c6_small l D kA N0 M0 M3 g 13 0 B _ hm3 (by omega) (by omega)) (hob3) rfl gX6_inverseOdd_X6_small rfl rfl rfl ⟨rfl, by decide +kernel, by decide +kernel, (by decide +kernel : (parseMethodDescriptor yX6_small.desc).map (fun d => d.parameters.length) = some 2)⟩ ⟨Nat.le_of_ble_eq_true rfl, Nat.le_of_ble_eq_true rfl⟩ hl.1 rfl (Nat.le_of_ble_eq_true rfl) dX6_inverseOdd_25 ⟨Nat.le_of_ble_eq_true rfl, Nat.le_of_ble_eq_true rfl⟩ (fun M4 H locs hm4 hM hS => ?_)
  refine lp _ _ M4 _ _ _ (Nat.le_refl _) hm4 (fun k hk => ?_) ?_ hM hS hl
  · rw [un_n (by omega), un_n (by omega), un_n (by omega), un_n (by omega)]
  · rw [un_s, un_n (by omega), un_n (by omega), un_n (by omega), un_s, un_n (by omega), un_n (by omega), un_s, un_n (by omega), un_s]
    exact bvI_0 hodd h1
end NM7
