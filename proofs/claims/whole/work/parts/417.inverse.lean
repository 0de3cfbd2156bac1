theorem in_X6_inverse_X6 : ∀ w ∈ wsX60, w ∈ wsX6_inverse := by decide +kernel
theorem iv_none {m a : Nat} (hm : 1 < m) (ha : 1 < a) (h : inv? a (m % a) = none) : inv? m a = none := by
  refine inv_none (fun y hy => ?_)
  rw [Nat.mod_eq_of_lt hm] at hy
  have h1 := Nat.div_add_mod (a * y) m
  rw [hy] at h1
  obtain ⟨q, eq⟩ : ∃ q, a * y / m = q := ⟨_, rfl⟩
  rw [eq] at h1
  refine inv_no (by omega) h (a - q % a) ?_
  rw [Nat.mod_eq_of_lt ha]
  have hq : q % a < a := Nat.mod_lt _ (by omega)
  have h2 : (m % a * (a - q % a) + m * q) % a = 0 := by
    rw [Nat.add_mod, Nat.mul_mod m q a, ← Nat.add_mod, ← Nat.mul_add, Nat.sub_add_cancel (Nat.le_of_lt hq), Nat.mul_mod_left]
  have h3 : (m % a * (a - q % a) + m * q + 1) % a = 1 := by
    rw [Nat.add_mod, h2, Nat.zero_add, Nat.mod_mod, Nat.mod_eq_of_lt ha]
  rw [Nat.add_assoc, h1, Nat.add_mul_mod_self_left] at h3
  exact h3
theorem iv_some {m a v : Nat} (hm : 1 < m) (ha : 1 < a) (h : inv? a (m % a) = some v) : 0 < v ∧ v < a ∧ (m * (a - v) + 1) / a < m ∧ inv? m a = some ((m * (a - v) + 1) / a) := by
  obtain ⟨hv, h1⟩ := inv_spec h
  rw [Nat.mod_eq_of_lt ha] at h1
  have hv0 : 0 < v := by
    rcases Nat.eq_zero_or_pos v with q | q
    · rw [q, Nat.mul_zero, Nat.zero_mod] at h1
      omega
    · exact q
  have h2 : (m * (a - v) + 1) % a = 0 := by
    have h3 : (m * v) % a = 1 := by rw [← h1, Nat.mul_mod m v a, Nat.mul_mod (m % a) v a, Nat.mod_mod]
    have h4 : (m * (a - v) + m * v) % a = 0 := by rw [← Nat.mul_add, Nat.sub_add_cancel (Nat.le_of_lt hv), Nat.mul_mod_left]
    rw [Nat.add_mod, h3] at h4
    rw [Nat.add_mod, Nat.mod_eq_of_lt ha]
    exact h4
  have h5 : a * ((m * (a - v) + 1) / a) = m * (a - v) + 1 := by
    have := Nat.div_add_mod (m * (a - v) + 1) a
    omega
  have h6 : (m * (a - v) + 1) / a < m := by
    apply Nat.div_lt_of_lt_mul
    have h7 : m * (a - v) ≤ m * (a - 1) := Nat.mul_le_mul_left _ (by omega)
    have h8 : m * (a - 1) + m = m * a := by rw [← Nat.mul_succ, show (a - 1).succ = a by omega]
    rw [Nat.mul_comm a m]
    omega
  refine ⟨hv0, hv, h6, inv_some h6 ?_⟩
  rw [h5, Nat.mul_add_mod]
theorem V_10 {f : Nat → Int32} {n : Nat} (h : V f 24 < BB ^ 10) (hn : V f 24 = n) : V f 10 = n := by
  have h1 := V_split f 10 14
  rw [hn] at h1 h
  have h2 := V_lt f 10
  rcases Nat.eq_zero_or_pos (Vw f 10 14) with q | q
  · rw [q, Nat.mul_zero, Nat.add_zero] at h1
    exact h1.symm
  · have : BB ^ 10 * 1 ≤ BB ^ 10 * Vw f 10 14 := Nat.mul_le_mul_left _ q
    omega
section NM12
variable {p : Program} {l : Launch} {e : Env} {R : Room} {s : State} {m : MethodId} {args : Array Value} {below : List Frame} {meth : Method} {c : Code} {Q : State → Prop} {cells slots : Nat} {ret : Option FieldType} {D : va_G} {kA : Nat → ClassId} {N0 : Nat}
set_option maxRecDepth 100000 in
theorem c6_inverse (l : Launch) (D : va_G) (kA : Nat → ClassId) (N0 : Nat) (M0 M : xM) (g to n t : Nat) (B : Int32 × Int32 × Int32 × Int32) (N : Nat → Nat) (hm : MN kA M0 M g B N) (hto : to < 30) (hn : n < 30) (ht : t < 30) (hto9 : 13 < to) (hn9 : 13 < n) (ht9 : t < 7) (hton : to ≠ n) (h4 : N 4 = 1) (h0 : 0 < N t) (hlt : N n < N t) (h9 : N t < BB ^ 9) : cI l yX6_inverse wsX6_inverse (xR 4) [.ref g, .int (nI to), .int (nI n), .int (nI t)] D kA N0 M (fun r M1 => ∃ N', MN kA M0 M1 g B N' ∧ (∀ k, k ≠ to → (k < 7 ∨ 13 < k) → N' k = N k) ∧ ((r = 1 ∧ inv? (N t) (N n) = some (N' to)) ∨ (r = 0 ∧ inv? (N t) (N n) = none))) := by
  obtain ⟨us, hob⟩ := hm.1
  obtain ⟨a, ea⟩ : ∃ q, N n = q := ⟨_, rfl⟩
  obtain ⟨mm, em⟩ : ∃ q, N t = q := ⟨_, rfl⟩
  rw [ea, em] at hlt ⊢
  rw [em] at h0 h9
  refine r_mZ (cc := cX6_inverse) (maxL := 9) (by decide) rfl (Nat.le_of_ble_eq_true rfl) ?_
  intro p e s m below meth c ls A0 Qp C hM hnm hl hend
  obtain ⟨hx, hb, hml, hown, hts, hr, hlocks, hK, hN⟩ := _root_.id C
  have hS : va_S (xA N0) s.heap s.heap [] := va_S.rf
  have hl : lv_has ls 9 [(0, .ref g), (1, .int (nI to)), (2, .int (nI n)), (3, .int (nI t))] := hl
  refine lv_aload_n hx hb dX6_inverse_0 rfl (lv_at hl 0 rfl) ?_
  refine lv_iload_n hx hb dX6_inverse_1 rfl (lv_at hl 3 rfl) ?_
  refine r_Vi (As := [.int (nI t)]) (rest := []) C hM hS (c6_isOne l D kA N0 M0 M g t B N hm ht h4) (hob) rfl gX6_inverse_X6_isOne rfl rfl rfl ⟨rfl, by decide +kernel, by decide +kernel, (by decide +kernel : (parseMethodDescriptor yX6_isOne.desc).map (fun d => d.parameters.length) = some 1)⟩ ⟨Nat.le_of_ble_eq_true rfl, Nat.le_of_ble_eq_true rfl⟩ hl.1 rfl (Nat.le_of_ble_eq_true rfl) dX6_inverse_2 ⟨Nat.le_of_ble_eq_true rfl, Nat.le_of_ble_eq_true rfl⟩ (fun r M1 H locs hp hM hS => ?_)
  obtain ⟨eM, hr⟩ := hp
  rw [eM] at hM
  rw [em] at hr
  rcases hr with ⟨er, hr⟩ | ⟨er, hr⟩
  · rw [er]
    refine lv_if_eq (tgt := 16) hx hb dX6_inverse_5 (by decide) (fun hc => ?_) (fun hc => ?_)
    · exact absurd hc (by decide)
    · refine lv_aload_n hx hb dX6_inverse_8 rfl (lv_at hl 0 rfl) ?_
      refine lv_iload_n hx hb dX6_inverse_9 rfl (lv_at hl 1 rfl) ?_
      refine lv_iconst (v := nI 0) hx hb dX6_inverse_10 (by decide) ?_
      refine r_Vv (As := [.int (nI to), .int (nI 0)]) (rest := []) C hM hS (c6_small l D kA N0 M0 M g to 0 B N hm hto (by omega)) (hob) rfl gX6_inverse_X6_small rfl rfl rfl ⟨rfl, by decide +kernel, by decide +kernel, (by decide +kernel : (parseMethodDescriptor yX6_small.desc).map (fun d => d.parameters.length) = some 2)⟩ ⟨Nat.le_of_ble_eq_true rfl, Nat.le_of_ble_eq_true rfl⟩ hl.1 rfl (Nat.le_of_ble_eq_true rfl) dX6_inverse_11 ⟨Nat.le_of_ble_eq_true rfl, Nat.le_of_ble_eq_true rfl⟩ (fun M3 H locs hm3 hM hS => ?_)
      have hi : inv? mm a = some 0 := inv_some h0 (by rw [hr, Nat.mod_one, Nat.mod_one])
      refine lv_iconst (v := nI 1) hx hb dX6_inverse_14 (by decide) ?_
      exact hend _ _ _ _ _ _ hM hS (by decide) (⟨_, hm3, fun k k1 k2 => un_n k1, Or.inl ⟨rfl, by rw [un_s]; exact hi⟩⟩) dX6_inverse_15
  · rw [er]
    have hm1 : 1 < mm := by omega
    refine lv_if_eq (tgt := 16) hx hb dX6_inverse_5 (by decide) (fun hc => ?_) (fun hc => ?_)
    · refine lv_aload_n hx hb dX6_inverse_16 rfl (lv_at hl 0 rfl) ?_
      refine lv_iload_n hx hb dX6_inverse_17 rfl (lv_at hl 3 rfl) ?_
      refine r_Vi (As := [.int (nI t)]) (rest := []) C hM hS (c6_isOdd l D kA N0 M0 M g t B N hm ht) (hob) rfl gX6_inverse_X6_isOdd rfl rfl rfl ⟨rfl, by decide +kernel, by decide +kernel, (by decide +kernel : (parseMethodDescriptor yX6_isOdd.desc).map (fun d => d.parameters.length) = some 1)⟩ ⟨Nat.le_of_ble_eq_true rfl, Nat.le_of_ble_eq_true rfl⟩ hl.1 rfl (Nat.le_of_ble_eq_true rfl) dX6_inverse_18 ⟨Nat.le_of_ble_eq_true rfl, Nat.le_of_ble_eq_true rfl⟩ (fun r2 M1 H locs hp hM hS => ?_)
      obtain ⟨eM2, hr2⟩ := hp
      rw [eM2] at hM
      rw [em] at hr2
      rcases hr2 with ⟨er2, hr2⟩ | ⟨er2, hr2⟩
      · rw [er2]
        refine lv_if_eq (tgt := 32) hx hb dX6_inverse_21 (by decide) (fun hd => ?_) (fun hd => ?_)
        · exact absurd hd (by decide)
        · refine lv_aload_n hx hb dX6_inverse_24 rfl (lv_at hl 0 rfl) ?_
          refine lv_iload_n hx hb dX6_inverse_25 rfl (lv_at hl 1 rfl) ?_
          refine lv_iload_n hx hb dX6_inverse_26 rfl (lv_at hl 2 rfl) ?_
          refine lv_iload_n hx hb dX6_inverse_27 rfl (lv_at hl 3 rfl) ?_
          refine r_Vi (As := [.int (nI to), .int (nI n), .int (nI t)]) (rest := []) C hM hS (c6_inverseOdd l D kA N0 M0 M g to n t B N hm hto hn ht (by omega) (by omega) (by omega) hton (by omega) h4 (by rw [em]; exact hr2) (by rw [em]; exact hm1) (by rw [em]; exact h9)) (hob) rfl gX6_inverse_X6_inverseOdd rfl rfl rfl ⟨rfl, by decide +kernel, by decide +kernel, (by decide +kernel : (parseMethodDescriptor yX6_inverseOdd.desc).map (fun d => d.parameters.length) = some 3)⟩ ⟨Nat.le_of_ble_eq_true rfl, Nat.le_of_ble_eq_true rfl⟩ hl.1 rfl (Nat.le_of_ble_eq_true rfl) dX6_inverse_28 ⟨Nat.le_of_ble_eq_true rfl, Nat.le_of_ble_eq_true rfl⟩ (fun r3 M3 H locs hp hM hS => ?_)
          obtain ⟨N', hm3, hf3, hr3⟩ := hp
          rw [ea, em] at hr3
          have hr01 : r3 = 0 ∨ r3 = 1 := by
            rcases hr3 with ⟨q, -⟩ | ⟨q, -⟩
            · exact Or.inr q
            · exact Or.inl q
          exact hend _ _ _ _ _ _ hM hS (hr01) (⟨N', hm3, fun k k1 k2 => hf3 k k1 (by omega), hr3⟩) dX6_inverse_31
      · rw [er2]
        refine lv_if_eq (tgt := 32) hx hb dX6_inverse_21 (by decide) (fun hd => ?_) (fun hd => ?_)
        · refine lv_aload_n hx hb dX6_inverse_32 rfl (lv_at hl 0 rfl) ?_
          refine lv_iload_n hx hb dX6_inverse_33 rfl (lv_at hl 2 rfl) ?_
          refine r_Vi (As := [.int (nI n)]) (rest := []) C hM hS (c6_isOdd l D kA N0 M0 M g n B N hm hn) (hob) rfl gX6_inverse_X6_isOdd rfl rfl rfl ⟨rfl, by decide +kernel, by decide +kernel, (by decide +kernel : (parseMethodDescriptor yX6_isOdd.desc).map (fun d => d.parameters.length) = some 1)⟩ ⟨Nat.le_of_ble_eq_true rfl, Nat.le_of_ble_eq_true rfl⟩ hl.1 rfl (Nat.le_of_ble_eq_true rfl) dX6_inverse_34 ⟨Nat.le_of_ble_eq_true rfl, Nat.le_of_ble_eq_true rfl⟩ (fun r3 M1 H locs hp hM hS => ?_)
          obtain ⟨eM3, hr3⟩ := hp
          rw [eM3] at hM
          rw [ea] at hr3
          rcases hr3 with ⟨er3, hr3⟩ | ⟨er3, hr3⟩
          · rw [er3]
            refine lv_if_ne (tgt := 42) hx hb dX6_inverse_37 (by decide) (fun hf => ?_) (fun hf => ?_)
            · refine lv_aload_n hx hb dX6_inverse_42 rfl (lv_at hl 0 rfl) ?_
              refine lv_iload_n hx hb dX6_inverse_43 rfl (lv_at hl 2 rfl) ?_
              refine r_Vi (As := [.int (nI n)]) (rest := []) C hM hS (c6_isOne l D kA N0 M0 M g n B N hm hn h4) (hob) rfl gX6_inverse_X6_isOne rfl rfl rfl ⟨rfl, by decide +kernel, by decide +kernel, (by decide +kernel : (parseMethodDescriptor yX6_isOne.desc).map (fun d => d.parameters.length) = some 1)⟩ ⟨Nat.le_of_ble_eq_true rfl, Nat.le_of_ble_eq_true rfl⟩ hl.1 rfl (Nat.le_of_ble_eq_true rfl) dX6_inverse_44 ⟨Nat.le_of_ble_eq_true rfl, Nat.le_of_ble_eq_true rfl⟩ (fun r4 M1 H locs hp hM hS => ?_)
              obtain ⟨eM4, hr4⟩ := hp
              rw [eM4] at hM
              rw [ea] at hr4
              rcases hr4 with ⟨er4, hr4⟩ | ⟨er4, hr4⟩
              · rw [er4]
                refine lv_if_eq (tgt := 58) hx hb dX6_inverse_47 (by decide) (fun hg9 => ?_) (fun hg9 => ?_)
                · exact absurd hg9 (by decide)
                · refine lv_aload_n hx hb dX6_inverse_50 rfl (lv_at hl 0 rfl) ?_
                  refine lv_iload_n hx hb dX6_inverse_51 rfl (lv_at hl 1 rfl) ?_
                  refine lv_iconst (v := nI 1) hx hb dX6_inverse_52 (by decide) ?_
                  refine r_Vv (As := [.int (nI to), .int (nI 1)]) (rest := []) C hM hS (c6_small l D kA N0 M0 M g to 1 B N hm hto (by omega)) (hob) rfl gX6_inverse_X6_small rfl rfl rfl ⟨rfl, by decide +kernel, by decide +kernel, (by decide +kernel : (parseMethodDescriptor yX6_small.desc).map (fun d => d.parameters.length) = some 2)⟩ ⟨Nat.le_of_ble_eq_true rfl, Nat.le_of_ble_eq_true rfl⟩ hl.1 rfl (Nat.le_of_ble_eq_true rfl) dX6_inverse_53 ⟨Nat.le_of_ble_eq_true rfl, Nat.le_of_ble_eq_true rfl⟩ (fun M3 H locs hm3 hM hS => ?_)
                  have hi : inv? mm a = some 1 := inv_some hm1 (by rw [hr4])
                  refine lv_iconst (v := nI 1) hx hb dX6_inverse_56 (by decide) ?_
                  exact hend _ _ _ _ _ _ hM hS (by decide) (⟨_, hm3, fun k k1 k2 => un_n k1, Or.inl ⟨rfl, by rw [un_s]; exact hi⟩⟩) dX6_inverse_57
              · rw [er4]
                have ha1 : 1 < a := by omega
                refine lv_if_eq (tgt := 58) hx hb dX6_inverse_47 (by decide) (fun hg9 => ?_) (fun hg9 => ?_)
                · refine lv_aload_n hx hb dX6_inverse_58 rfl (lv_at hl 0 rfl) ?_
                  refine lv_bipush (v := nI 7) hx hb dX6_inverse_59 (by decide) ?_
                  refine lv_iload_n hx hb dX6_inverse_61 rfl (lv_at hl 3 rfl) ?_
                  refine lv_iload_n hx hb dX6_inverse_62 rfl (lv_at hl 2 rfl) ?_
                  refine r_Vv (As := [.int (nI 7), .int (nI t), .int (nI n)]) (rest := []) C hM hS (c6_rest l D kA N0 M0 M g 7 t n B N hm (by omega) ht hn (by rw [ea]; omega)) (hob) rfl gX6_inverse_X6_rest rfl rfl rfl ⟨rfl, by decide +kernel, by decide +kernel, (by decide +kernel : (parseMethodDescriptor yX6_rest.desc).map (fun d => d.parameters.length) = some 3)⟩ ⟨Nat.le_of_ble_eq_true rfl, Nat.le_of_ble_eq_true rfl⟩ hl.1 rfl (Nat.le_of_ble_eq_true rfl) dX6_inverse_63 ⟨Nat.le_of_ble_eq_true rfl, Nat.le_of_ble_eq_true rfl⟩ (fun M3 H locs hm3 hM hS => ?_)
                  rw [ea, em] at hm3
                  obtain ⟨us3, hob3⟩ := hm3.1
                  have e7n : un N 7 (mm % a) n = a := by rw [un_n (by omega)]; exact ea
                  have e74 : un N 7 (mm % a) 4 = 1 := by rw [un_n (by omega)]; exact h4
                  refine lv_aload_n hx hb dX6_inverse_66 rfl (lv_at hl 0 rfl) ?_
                  refine lv_bipush (v := nI 8) hx hb dX6_inverse_67 (by decide) ?_
                  refine lv_bipush (v := nI 7) hx hb dX6_inverse_69 (by decide) ?_
                  refine lv_iload_n hx hb dX6_inverse_71 rfl (lv_at hl 2 rfl) ?_
                  refine r_Vi (As := [.int (nI 8), .int (nI 7), .int (nI n)]) (rest := []) C hM hS (c6_inverseOdd l D kA N0 M0 M3 g 8 7 n B _ hm3 (by omega) (by omega) hn (by omega) (by omega) (by omega) (by omega) (by omega) e74 (by rw [e7n]; exact hr3) (by rw [e7n]; exact ha1) (by rw [e7n]; omega)) (hob3) rfl gX6_inverse_X6_inverseOdd rfl rfl rfl ⟨rfl, by decide +kernel, by decide +kernel, (by decide +kernel : (parseMethodDescriptor yX6_inverseOdd.desc).map (fun d => d.parameters.length) = some 3)⟩ ⟨Nat.le_of_ble_eq_true rfl, Nat.le_of_ble_eq_true rfl⟩ hl.1 rfl (Nat.le_of_ble_eq_true rfl) dX6_inverse_72 ⟨Nat.le_of_ble_eq_true rfl, Nat.le_of_ble_eq_true rfl⟩ (fun r5 M5 H locs hp hM hS => ?_)
                  obtain ⟨N5, hm5, hf5, hr5⟩ := hp
                  rw [e7n, un_s] at hr5
                  have hf6 : ∀ k, (k < 7 ∨ 13 < k) → N5 k = N k := fun k hk => by rw [hf5 k (by omega) (by omega), un_n (by omega)]
                  obtain ⟨us5, hob5⟩ := hm5.1
                  rcases hr5 with ⟨er5, hr5⟩ | ⟨er5, hr5⟩
                  · rw [er5]
                    obtain ⟨v, ev⟩ : ∃ q, N5 8 = q := ⟨_, rfl⟩
                    rw [ev] at hr5
                    obtain ⟨hv0, hva, hqm, hinv⟩ := iv_some hm1 ha1 hr5
                    refine lv_if_ne (tgt := 80) hx hb dX6_inverse_75 (by decide) (fun hj => ?_) (fun hj => ?_)
                    · refine lv_aload_n hx hb dX6_inverse_80 rfl (lv_at hl 0 rfl) ?_
                      refine lv_bipush (v := nI 8) hx hb dX6_inverse_81 (by decide) ?_
                      refine lv_iload_n hx hb dX6_inverse_83 rfl (lv_at hl 2 rfl) ?_
                      refine lv_bipush (v := nI 8) hx hb dX6_inverse_84 (by decide) ?_
                      refine r_Vv (As := [.int (nI 8), .int (nI n), .int (nI 8)]) (rest := []) C hM hS (c6_minus l D kA N0 M0 M5 g 8 n 8 B N5 hm5 (by omega) hn (by omega) (by rw [ev, hf6 n (by omega), ea]; omega)) (hob5) rfl gX6_inverse_X6_minus rfl rfl rfl ⟨rfl, by decide +kernel, by decide +kernel, (by decide +kernel : (parseMethodDescriptor yX6_minus.desc).map (fun d => d.parameters.length) = some 3)⟩ ⟨Nat.le_of_ble_eq_true rfl, Nat.le_of_ble_eq_true rfl⟩ hl.1 rfl (Nat.le_of_ble_eq_true rfl) dX6_inverse_86 ⟨Nat.le_of_ble_eq_true rfl, Nat.le_of_ble_eq_true rfl⟩ (fun M6 H locs hm6 hM hS => ?_)
                      rw [ev, hf6 n (by omega), ea] at hm6
                      obtain ⟨us6, hob6⟩ := hm6.1
                      obtain ⟨v', ev'⟩ : ∃ q, a - v = q := ⟨_, rfl⟩
                      rw [ev'] at hm6 hqm hinv
                      refine lv_aload_n hx hb dX6_inverse_89 rfl (lv_at hl 0 rfl) ?_
                      refine lv_iload_n hx hb dX6_inverse_90 rfl (lv_at hl 3 rfl) ?_
                      refine lv_bipush (v := nI 8) hx hb dX6_inverse_91 (by decide) ?_
                      refine r_Vv (As := [.int (nI t), .int (nI 8)]) (rest := []) C hM hS (c6_productToU l D kA N0 M0 M6 g t 8 B _ hm6 ht (by omega)) (hob6) rfl gX6_inverse_X6_productToU rfl rfl rfl ⟨rfl, by decide +kernel, by decide +kernel, (by decide +kernel : (parseMethodDescriptor yX6_productToU.desc).map (fun d => d.parameters.length) = some 2)⟩ ⟨Nat.le_of_ble_eq_true rfl, Nat.le_of_ble_eq_true rfl⟩ hl.1 rfl (Nat.le_of_ble_eq_true rfl) dX6_inverse_93 ⟨Nat.le_of_ble_eq_true rfl, Nat.le_of_ble_eq_true rfl⟩ (fun M7 H locs hp hM hS => ?_)
                      obtain ⟨hm7, hob7, f, hu7, nf, hVf, hzf⟩ := hp
                      rw [un_s, un_n (by omega), hf6 t (by omega), em] at hVf
                      obtain ⟨N7, eN7⟩ : ∃ q, un N5 8 v' = q := ⟨_, rfl⟩
                      rw [eN7] at hm7
                      have hf7 : ∀ k, (k < 7 ∨ 13 < k) → N7 k = N k := fun k hk => by rw [← eN7, un_n (by omega)]; exact hf6 k hk
                      have hprod : mm * v' + 1 < BB ^ 20 := by
                        have q1 : mm * v' ≤ mm * BB ^ 10 := Nat.mul_le_mul_left _ (by have : BB ^ 10 = BB ^ 9 * 2147483648 := rfl; omega)
                        have q2 : mm * BB ^ 10 ≤ BB ^ 9 * BB ^ 10 := Nat.mul_le_mul_right _ (Nat.le_of_lt h9)
                        have q3 : BB ^ 20 = BB ^ 9 * BB ^ 10 * 2147483648 := rfl
                        have q4 : 0 < BB ^ 9 * BB ^ 10 := by decide
                        omega
                      have hBB : BB = 2147483648 := rfl
                      -- the quotient is taken
                      have lp2 : ∀ (qf : Nat → Int32) (E0 : Nat → Int32) (N8 : Nat → Nat) (M8 : xM) (us8 : Int32), M8 g = some (oMd g B us8) → M8 (g + 7) = some (xI (kA 0) 24 qf) → nn qf 24 → V qf 10 = (mm * v' + 1) / a → Nf E0 N8 → (∀ F' N', Nf F' N' → MN kA M0 (xset M8 (g + 3) (xI (kA 0) 300 F')) g B N') → (∀ k, (k < 7 ∨ 13 < k) → N8 k = N k) → ∀ (k i : Nat) (F : Nat → Int32) (cy : Int64) (H : Heap) (locs : List Loc) (ls : Array Slot), i + k = 10 → Lp E0 F to i (V qf i) → xW D vwCl N0 (xset M8 (g + 3) (xI (kA 0) 300 F)) H → va_S (xA N0) s.heap H locs → lv_has ls 9 [(6, .int (nI i)), (0, .ref g), (1, .int (nI to)), (2, .int (nI n)), (3, .int (nI t))] → W p l e (xR 4) s m A0 below meth c H locs 0 0 Qp (F0 m 159 ls []) := by
                        intro qf E0 N8 M8 us8 hob8 hq8 nq hVq hnf hst hf8 k
                        induction k with
                        | zero =>
                          intro i F cy H locs ls hik hL hM hS hl
                          refine lv_iload hx hb dX6_inverse_159 (lv_at hl 0 rfl) ?_
                          refine lv_bipush (v := nI 10) hx hb dX6_inverse_161 (by decide) ?_
                          refine r_icmp_geN (tgt := 186) C (by omega) (by omega) dX6_inverse_163 (by decide) (fun hk9 => ?_) (fun hk9 => ?_)
                          · have hi10 : i = 10 := by omega
                            subst hi10
                            rw [hVq] at hL
                            refine lv_iconst (v := nI 1) hx hb dX6_inverse_186 (by decide) ?_
                            exact hend _ _ _ _ _ _ hM hS (by decide) (⟨_, hst _ _ (hL.fin hnf hto), fun k k1 k2 => by rw [un_n k1]; exact hf8 k k2, Or.inl ⟨rfl, by rw [un_s]; exact hinv⟩⟩) dX6_inverse_187
                          · omega
                        | succ k ih =>
                          intro i F cy H locs ls hik hL hM hS hl
                          have hob9 : xset M8 (g + 3) (xI (kA 0) 300 F) g = some (oMd g B us8) := by rw [xset_n (by omega)]; exact hob8
                          have hq9 : xset M8 (g + 3) (xI (kA 0) 300 F) (g + 7) = some (xI (kA 0) 24 qf) := by rw [xset_n (by omega)]; exact hq8
                          refine lv_iload hx hb dX6_inverse_159 (lv_at hl 0 rfl) ?_
                          refine lv_bipush (v := nI 10) hx hb dX6_inverse_161 (by decide) ?_
                          refine r_icmp_geN (tgt := 186) C (by omega) (by omega) dX6_inverse_163 (by decide) (fun hk9 => ?_) (fun hk9 => ?_)
                          · omega
                          · refine lv_aload_n hx hb dX6_inverse_166 rfl (lv_at hl 1 rfl) ?_
                            refine lv_iload_n hx hb dX6_inverse_167 rfl (lv_at hl 2 rfl) ?_
                            refine lv_iload hx hb dX6_inverse_168 (lv_at hl 0 rfl) ?_
                            refine lv_aload_n hx hb dX6_inverse_170 rfl (lv_at hl 1 rfl) ?_
                            refine x_get (v := .ref (g + 7)) hx hb hts in_X6_inverse_X6 hown hK hM (hob9) rfl 10 (by decide) (hts (.fieldLink RX6 33 "LimbCurvesModel" "q" "[I") (by decide +kernel)) (fun _ h9 => h9) rfl dX6_inverse_171 ?_
                            refine lv_iload hx hb dX6_inverse_174 (lv_at hl 0 rfl) ?_
                            refine r_iald C hM (hq9) rfl (by omega) (by omega) dX6_inverse_176 ?_
                            refine r_Vv (As := [.int (nI to), .int (nI i), .int (qf i)]) (rest := []) C hM hS (c6_set l D kA N0 (xset M8 (g + 3) (xI (kA 0) 300 F)) g to i (qf i) B us8 F hob9 xset_s hto (by omega)) (hob9) rfl gX6_inverse_X6_set rfl rfl rfl ⟨rfl, by decide +kernel, by decide +kernel, (by decide +kernel : (parseMethodDescriptor yX6_set.desc).map (fun d => d.parameters.length) = some 3)⟩ ⟨Nat.le_of_ble_eq_true rfl, Nat.le_of_ble_eq_true rfl⟩ hl.1 rfl (Nat.le_of_ble_eq_true rfl) dX6_inverse_177 ⟨Nat.le_of_ble_eq_true rfl, Nat.le_of_ble_eq_true rfl⟩ (fun M9 H locs hp hM hS => ?_)
                            rw [hp, xset_xset] at hM
                            refine lv_iinc (v := nI (i + 1)) (lv' := [(6, .int (nI (i + 1))), (0, .ref g), (1, .int (nI to)), (2, .int (nI n)), (3, .int (nI t))]) hx hb dX6_inverse_180 hl (k := 0) rfl (r_inc _) (by decide) rfl (fun ls hl => ?_)
                            refine lv_goto (tgt := 159) hx hb dX6_inverse_183 (by decide) ?_
                            exact ih (i + 1) _ cy H locs ls (by omega) (hL.s (nq i (by omega)) (by rw [V_s])) hM hS (lv_sub hl [0, 1, 2, 3, 4] rfl)
                      -- one is added
                      have lp1 : ∀ (k i ov : Nat) (cy : Int64) (f' : Nat → Int32) (M8 : xM) (H : Heap) (locs : List Loc) (ls : Array Slot), i + k = 20 → MN kA M0 M8 g B N7 → M8 g = some (oMd g B (nI 20)) → M8 (g + 5) = some (xI (kA 0) 24 f') → nn f' 24 → (∀ j, i ≤ j → j < 24 → f' j = f j) → V f' i + ov * BB ^ i = V f i + 1 → cy.toInt = ov → ov ≤ 1 → xW D vwCl N0 M8 H → va_S (xA N0) s.heap H locs → lv_has ls 9 [(6, .int (nI i)), (4, .long cy), (0, .ref g), (1, .int (nI to)), (2, .int (nI n)), (3, .int (nI t))] → W p l e (xR 4) s m A0 below meth c H locs 0 0 Qp (F0 m 102 ls []) := by
                        intro k
                        induction k with
                        | zero =>
                          intro i ov cy f' M8 H locs ls hik hm8 hob8 hu8 nf' hrest hI hcy hov hM hS hl
                          have hi20 : i = 20 := by omega
                          subst hi20
                          rw [hVf] at hI
                          have hov0 : ov = 0 := by
                            rcases Nat.eq_zero_or_pos ov with q | q
                            · exact q
                            · have q1 : ov = 1 := by omega
                              rw [q1, Nat.one_mul] at hI
                              omega
                          rw [hov0, Nat.zero_mul, Nat.add_zero] at hI
                          refine lv_iload hx hb dX6_inverse_102 (lv_at hl 0 rfl) ?_
                          refine lv_bipush (v := nI 20) hx hb dX6_inverse_104 (by decide) ?_
                          refine r_icmp_geN (tgt := 149) C (by omega) (by omega) dX6_inverse_106 (by decide) (fun hk9 => ?_) (fun hk9 => ?_)
                          · refine lv_aload_n hx hb dX6_inverse_149 rfl (lv_at hl 2 rfl) ?_
                            refine lv_iload_n hx hb dX6_inverse_150 rfl (lv_at hl 4 rfl) ?_
                            refine lv_bipush (v := nI 7) hx hb dX6_inverse_151 (by decide) ?_
                            refine r_Vv (As := [.int (nI n), .int (nI 7)]) (rest := []) C hM hS (c6_divide l D kA N0 M0 M8 g n 7 20 (mm * v' + 1) B N7 f' hm8 hob8 hu8 nf' hI (fun j h1 h2 => by rw [hrest j h1 h2]; exact hzf j h1 h2) (Or.inr rfl) hn (by omega) (by rw [hf7 n (by omega), ea]; omega)) (hob8) rfl gX6_inverse_X6_divide rfl rfl rfl ⟨rfl, by decide +kernel, by decide +kernel, (by decide +kernel : (parseMethodDescriptor yX6_divide.desc).map (fun d => d.parameters.length) = some 2)⟩ ⟨Nat.le_of_ble_eq_true rfl, Nat.le_of_ble_eq_true rfl⟩ hl.1 rfl (Nat.le_of_ble_eq_true rfl) dX6_inverse_153 ⟨Nat.le_of_ble_eq_true rfl, Nat.le_of_ble_eq_true rfl⟩ (fun M9 H locs hp hM hS => ?_)
                            obtain ⟨hm9, qf, hq9, nq, hVq⟩ := hp
                            rw [hf7 n (by omega), ea] at hm9 hVq
                            obtain ⟨us9, E0, hob9, hF9, hnf9, hst9⟩ := hm9.op
                            have hM : xW D vwCl N0 (xset M9 (g + 3) (xI (kA 0) 300 E0)) H := by rw [xset_id hF9]; exact hM
                            have hq10 : (mm * v' + 1) / a < BB ^ 10 := by
                              have : BB ^ 10 = BB ^ 9 * 2147483648 := rfl
                              omega
                            refine lv_iconst (v := nI 0) hx hb dX6_inverse_156 (by decide) ?_
                            refine lv_istore (lv' := [(6, .int (nI 0)), (4, .long cy), (0, .ref g), (1, .int (nI to)), (2, .int (nI n)), (3, .int (nI t))]) hx hb dX6_inverse_157 hl (by decide) rfl (fun ls hl => ?_)
                            exact lp2 qf E0 _ M9 us9 hob9 hq9 nq (V_10 (by rw [hVq]; exact hq10) hVq) hnf9 hst9 (fun k hk => by rw [un_n (by omega)]; exact hf7 k hk) 10 0 E0 cy H locs ls rfl (Lp.ini E0 to) hM hS (lv_sub hl [0, 2, 3, 4, 5] rfl)
                          · omega
                        | succ k ih =>
                          intro i ov cy f' M8 H locs ls hik hm8 hob8 hu8 nf' hrest hI hcy hov hM hS hl
                          refine lv_iload hx hb dX6_inverse_102 (lv_at hl 0 rfl) ?_
                          refine lv_bipush (v := nI 20) hx hb dX6_inverse_104 (by decide) ?_
                          refine r_icmp_geN (tgt := 149) C (by omega) (by omega) dX6_inverse_106 (by decide) (fun hk9 => ?_) (fun hk9 => ?_)
                          · omega
                          · refine lv_aload_n hx hb dX6_inverse_109 rfl (lv_at hl 2 rfl) ?_
                            refine x_get (v := .ref (g + 5)) hx hb hts in_X6_inverse_X6 hown hK hM (hob8) rfl 8 (by decide) (hts (.fieldLink RX6 27 "LimbCurvesModel" "u" "[I") (by decide +kernel)) (fun _ h9 => h9) rfl dX6_inverse_110 ?_
                            refine lv_iload hx hb dX6_inverse_113 (lv_at hl 0 rfl) ?_
                            refine r_iald C hM (hu8) rfl (by omega) (by omega) dX6_inverse_115 ?_
                            rw [hrest i (by omega) (by omega)]
                            have z1 := nf i (by omega)
                            have y1 := dg_int z1
                            have l1 := dg_lt (f i)
                            refine lv_i2l (v := (f i).toInt64) hx hb dX6_inverse_116 rfl ?_
                            refine lv_lload hx hb dX6_inverse_117 (lv_at hl 1 rfl) ?_
                            refine lv_ladd hx hb dX6_inverse_119 ?_
                            refine lv_topl (fun v_1 ev_1 => ?_)
                            refine lv_lstore (lv' := [(7, .long v_1), (6, .int (nI i)), (4, .long cy), (0, .ref g), (1, .int (nI to)), (2, .int (nI n)), (3, .int (nI t))]) hx hb dX6_inverse_120 hl (by decide) rfl (fun ls hl => ?_)
                            refine lv_aload_n hx hb dX6_inverse_122 rfl (lv_at hl 3 rfl) ?_
                            refine x_get (v := .ref (g + 5)) hx hb hts in_X6_inverse_X6 hown hK hM (hob8) rfl 8 (by decide) (hts (.fieldLink RX6 27 "LimbCurvesModel" "u" "[I") (by decide +kernel)) (fun _ h9 => h9) rfl dX6_inverse_123 ?_
                            refine lv_iload hx hb dX6_inverse_126 (lv_at hl 1 rfl) ?_
                            refine lv_lload hx hb dX6_inverse_128 (lv_at hl 0 rfl) ?_
                            refine lv_ldc2 (v := 2147483647) hx hb hown (hts (.constantLong RX6 75 (2147483647)) (by decide +kernel)) dX6_inverse_130 ?_
                            refine lv_land hx hb dX6_inverse_133 ?_
                            refine lv_l2i (v := (v_1 &&& 2147483647).toInt32) hx hb dX6_inverse_134 rfl ?_
                            have hT : v_1.toInt = ((dg (f i) + ov : Nat) : Int) := by
                              rw [ev_1, l_add (l_i2l rfl) hcy (by omega) (by omega)]
                              omega
                            have ho := cmb_o v_1
                            have hcr := cmb_c v_1
                            rw [hT] at ho hcr
                            have hx0 : 0 ≤ ((v_1 &&& 2147483647).toInt32).toInt := by rw [ho]; omega
                            have hdx : dg ((v_1 &&& 2147483647).toInt32) = (dg (f i) + ov) % BB := by
                              have h9 : (dg ((v_1 &&& 2147483647).toInt32) : Int) = ((dg (f i) + ov : Nat) : Int) % 2147483648 := by rw [dg_int hx0, ho]
                              rw [hBB]
                              omega
                            refine r_iast C hM hS (hu8) rfl (by omega) (by omega) dX6_inverse_135 (fun H locs hM hS => ?_)
                            refine lv_lload hx hb dX6_inverse_136 (lv_at hl 0 rfl) ?_
                            refine lv_bipush (v := nI 31) hx hb dX6_inverse_138 (by decide) ?_
                            refine lv_lshr (v := v_1 >>> ((nI 31).toInt64 &&& 63)) hx hb dX6_inverse_140 rfl ?_
                            refine lv_topl (fun v_2 ev_2 => ?_)
                            refine lv_lstore (lv' := [(4, .long v_2), (7, .long v_1), (6, .int (nI i)), (0, .ref g), (1, .int (nI to)), (2, .int (nI n)), (3, .int (nI t))]) hx hb dX6_inverse_141 hl (by decide) rfl (fun ls hl => ?_)
                            refine lv_iinc (v := nI (i + 1)) (lv' := [(6, .int (nI (i + 1))), (4, .long v_2), (7, .long v_1), (0, .ref g), (1, .int (nI to)), (2, .int (nI n)), (3, .int (nI t))]) hx hb dX6_inverse_143 hl (k := 2) rfl (r_inc _) (by decide) rfl (fun ls hl => ?_)
                            refine lv_goto (tgt := 102) hx hb dX6_inverse_146 (by decide) ?_
                            refine ih (i + 1) ((dg (f i) + ov) / BB) v_2 (upd f' i ((v_1 &&& 2147483647).toInt32)) _ H locs ls (by omega) (hm8.u _) (by rw [xset_n (by omega)]; exact hob8) xset_s (fun j hj => ?_) (fun j h1 h2 => ?_) ?_ ?_ ?_ hM hS (lv_sub hl [0, 1, 3, 4, 5, 6] rfl)
                            · by_cases q1 : j = i
                              · rw [q1, pk_us]; exact hx0
                              · rw [pk_un q1]; exact nf' j hj
                            · rw [pk_un (by omega)]; exact hrest j (by omega) h2
                            · have q1 : V (upd f' i ((v_1 &&& 2147483647).toInt32)) i = V f' i := V_congr (fun j hj => pk_un (by omega))
                              have q2 : V f' i + dg ((v_1 &&& 2147483647).toInt32) * BB ^ i + (dg (f i) + ov) / BB * (BB ^ i * BB) = V f i + dg (f i) * BB ^ i + (1 + 0 * BB ^ i) := pl_st (d2 := 0) hI hdx
                              rw [Nat.zero_mul] at q2
                              rw [V_s, V_s, q1, pk_us, Nat.pow_succ]
                              omega
                            · rw [ev_2, hcr, hBB]
                              omega
                            · rw [hBB]
                              omega
                      refine lv_lconst (v := 1) hx hb dX6_inverse_96 (by decide) ?_
                      refine lv_lstore (lv' := [(4, .long 1), (0, .ref g), (1, .int (nI to)), (2, .int (nI n)), (3, .int (nI t))]) hx hb dX6_inverse_97 hl (by decide) rfl (fun ls hl => ?_)
                      refine lv_iconst (v := nI 0) hx hb dX6_inverse_99 (by decide) ?_
                      refine lv_istore (lv' := [(6, .int (nI 0)), (4, .long 1), (0, .ref g), (1, .int (nI to)), (2, .int (nI n)), (3, .int (nI t))]) hx hb dX6_inverse_100 hl (by decide) rfl (fun ls hl => ?_)
                      exact lp1 20 0 1 1 f M7 H locs ls rfl hm7 hob7 hu7 nf (fun _ _ _ => rfl) (by rw [V_0, Nat.pow_zero]) (by decide) (by omega) hM hS (lv_sub hl [0, 1, 2, 3, 4, 5] rfl)
                    · exact absurd hj (by decide)
                  · rw [er5]
                    refine lv_if_ne (tgt := 80) hx hb dX6_inverse_75 (by decide) (fun hj => ?_) (fun hj => ?_)
                    · exact absurd rfl hj
                    · refine lv_iconst (v := nI 0) hx hb dX6_inverse_78 (by decide) ?_
                      exact hend _ _ _ _ _ _ hM hS (by decide) (⟨N5, hm5, fun k k1 k2 => hf6 k k2, Or.inr ⟨rfl, iv_none hm1 ha1 hr5⟩⟩) dX6_inverse_79
                · exact absurd rfl hg9
            · exact absurd hf (by decide)
          · rw [er3]
            refine lv_if_ne (tgt := 42) hx hb dX6_inverse_37 (by decide) (fun hf => ?_) (fun hf => ?_)
            · exact absurd rfl hf
            · have hno : inv? mm a = none := by
                refine gcd_no h0 (fun q => ?_)
                have h2 : 2 ∣ Nat.gcd mm a := Nat.dvd_gcd (by omega) (by omega)
                rw [q] at h2
                exact absurd (Nat.dvd_one.mp h2) (by decide)
              refine lv_iconst (v := nI 0) hx hb dX6_inverse_40 (by decide) ?_
              exact hend _ _ _ _ _ _ hM hS (by decide) (⟨N, hm, fun k k1 k2 => rfl, Or.inr ⟨rfl, hno⟩⟩) dX6_inverse_41
        · exact absurd rfl hd
    · exact absurd rfl hc
end NM12
