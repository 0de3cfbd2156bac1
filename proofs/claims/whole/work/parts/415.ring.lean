def hmo (m x : Nat) : Nat := if x % 2 = 1 then (x + m) / 2 else x / 2
theorem hmo_lt {m x : Nat} (h : x < m) : hmo m x < m := by
  unfold hmo
  split <;> omega
/-- the half of a number modulo an odd number -/
theorem hmo_s {m x : Nat} (hm : m % 2 = 1) : ∃ e : Nat, 2 * hmo m x = x + m * e := by
  unfold hmo
  split
  · exact ⟨1, by omega⟩
  · exact ⟨0, by omega⟩
theorem md_s {m x y : Nat} (hx : x < m) (hy : y < m) : ∃ e : Int, (((x + (m - y)) % m : Nat) : Int) = x - y + m * e := by
  rcases Nat.lt_or_ge x y with h | h
  · refine ⟨1, ?_⟩
    rw [Nat.mod_eq_of_lt (by omega)]
    omega
  · refine ⟨0, ?_⟩
    rw [show x + (m - y) = x - y + m by omega, Nat.add_mod_right, Nat.mod_eq_of_lt (by omega)]
    omega
theorem dv2 {m t X u : Int} {k : Int} (hm : m = 2 * t + 1) (h : 2 * X = 2 * u + m * k) : ∃ k', X = u + m * k' := by
  refine ⟨X - u - t * k, ?_⟩
  have h1 : k = 2 * (X - u - t * k) := by rw [hm] at h; grind
  have h2 : m * k = 2 * (m * (X - u - t * k)) := by
    have := congrArg (fun z => m * z) h1
    grind
  omega
/-- what the binary inverse keeps -/
def bvI (m a u v x y : Nat) : Prop := x < m ∧ y < m ∧ 0 < v ∧ (∃ k : Int, (x : Int) * a = u + m * k) ∧ (∃ k : Int, (y : Int) * a = v + m * k) ∧ Nat.gcd u v = Nat.gcd m a ∧ (u % 2 = 1 ∨ v % 2 = 1)
theorem bvI_0 {m a : Nat} (hm : m % 2 = 1) (h1 : 1 < m) : bvI m a a m 1 0 := ⟨h1, by omega, by omega, ⟨0, by omega⟩, ⟨-1, by omega⟩, Nat.gcd_comm _ _, Or.inr hm⟩
theorem hv_k {m a u x : Nat} (hm : m % 2 = 1) (hu : u % 2 = 0) (h : ∃ k : Int, (x : Int) * a = u + m * k) : ∃ k : Int, (hmo m x : Int) * a = ((u / 2 : Nat) : Int) + m * k := by
  obtain ⟨k, hk⟩ := h
  obtain ⟨e, he⟩ := hmo_s (x := x) hm
  have he2 : (2 : Int) * (hmo m x : Int) = x + m * e := by exact_mod_cast he
  have hu2 : (u : Int) = 2 * ((u / 2 : Nat) : Int) := by omega
  refine dv2 (t := ((m / 2 : Nat) : Int)) (k := k + e * a) (by omega) ?_
  rw [← hu2]
  grind
theorem bvI_hu {m a u v x y : Nat} (hm : m % 2 = 1) (hu : u % 2 = 0) (h : bvI m a u v x y) : bvI m a (u / 2) v (hmo m x) y := by
  obtain ⟨h1, h2, h3, h4, h5, h6, h7⟩ := h
  refine ⟨hmo_lt h1, h2, h3, hv_k hm hu h4, h5, ?_, Or.inr (by omega)⟩
  rw [← h6]
  have hv : v % 2 = 1 := by omega
  have hc : Nat.Coprime 2 v := by
    unfold Nat.Coprime
    rw [Nat.gcd_rec, hv]
    rfl
  have := Nat.Coprime.gcd_mul_left_cancel (u / 2) hc
  rw [show 2 * (u / 2) = u by omega] at this
  exact this.symm
theorem bvI_hv {m a u v x y : Nat} (hm : m % 2 = 1) (hu : u % 2 = 1) (hv : v % 2 = 0) (h : bvI m a u v x y) : bvI m a u (v / 2) x (hmo m y) := by
  obtain ⟨h1, h2, h3, h4, h5, h6, h7⟩ := h
  refine ⟨h1, hmo_lt h2, by omega, h4, hv_k hm hv h5, ?_, Or.inl hu⟩
  rw [← h6]
  have hc : Nat.Coprime 2 u := by
    unfold Nat.Coprime
    rw [Nat.gcd_rec, hu]
    rfl
  have := Nat.Coprime.gcd_mul_left_cancel (v / 2) hc
  rw [show 2 * (v / 2) = v by omega] at this
  rw [Nat.gcd_comm, ← this, Nat.gcd_comm]
theorem bvI_su {m a u v x y : Nat} (hv : v % 2 = 1) (hle : v ≤ u) (h : bvI m a u v x y) : bvI m a (u - v) v ((x + (m - y)) % m) y := by
  obtain ⟨h1, h2, h3, ⟨k4, h4⟩, ⟨k5, h5⟩, h6, h7⟩ := h
  obtain ⟨e, he⟩ := md_s h1 h2
  refine ⟨Nat.mod_lt _ (by omega), h2, h3, ⟨k4 - k5 + e * a, ?_⟩, ⟨k5, h5⟩, ?_, Or.inr hv⟩
  · rw [he, show ((u - v : Nat) : Int) = u - v by omega]
    grind
  · rw [← h6, Nat.gcd_comm, Nat.gcd_sub_self_right hle, Nat.gcd_comm]
theorem bvI_sv {m a u v x y : Nat} (hu : u % 2 = 1) (hlt : u < v) (h : bvI m a u v x y) : bvI m a u (v - u) x ((y + (m - x)) % m) := by
  obtain ⟨h1, h2, h3, ⟨k4, h4⟩, ⟨k5, h5⟩, h6, h7⟩ := h
  obtain ⟨e, he⟩ := md_s h2 h1
  refine ⟨h1, Nat.mod_lt _ (by omega), by omega, ⟨k4, h4⟩, ⟨k5 - k4 + e * a, ?_⟩, ?_, Or.inl hu⟩
  · rw [he, show ((v - u : Nat) : Int) = v - u by omega]
    grind
  · rw [← h6, ← Nat.gcd_sub_self_right (Nat.le_of_lt hlt)]
theorem bv_fin {m a x : Nat} (hx : x < m) (h : ∃ k : Int, (x : Int) * a = (1 : Nat) + m * k) : inv? m a = some x := by
  obtain ⟨k, hk⟩ := h
  refine inv_some hx ?_
  have h1 : ((a * x : Nat) : Int) % m = 1 % m := by
    rw [show ((a * x : Nat) : Int) = (x : Int) * a by rw [Int.natCast_mul, Int.mul_comm], hk, Int.add_mul_emod_self_left]
    rfl
  exact_mod_cast h1
theorem bvI_u1 {m a v x y : Nat} (h : bvI m a 1 v x y) : inv? m a = some x := bv_fin h.1 h.2.2.2.1
theorem bvI_v1 {m a u x y : Nat} (h : bvI m a u 1 x y) : inv? m a = some y := bv_fin h.2.1 h.2.2.2.2.1
theorem bvI_v1a {m a u x y : Nat} (h1 : 1 < m) (h : bvI m a u 1 x y) : a ≠ 0 := by
  intro q
  obtain ⟨k, hk⟩ := h.2.2.2.2.1
  rw [q] at hk
  have hk : (m : Int) * k = -1 := by omega
  have h2 : (m : Int) ∣ 1 := ⟨-k, by rw [Int.mul_neg, hk]; rfl⟩
  have h3 := Int.le_of_dvd (by decide) h2
  omega
theorem gcd_no {m a : Nat} (hm : 0 < m) (h : Nat.gcd m a ≠ 1) : inv? m a = none := by
  refine inv_none (fun y hy => h ?_)
  have h1 : Nat.gcd m a ∣ a * y := Nat.dvd_trans (Nat.gcd_dvd_right m a) (Nat.dvd_mul_right _ _)
  have h2 : Nat.gcd m a ∣ m := Nat.gcd_dvd_left m a
  have h3 : Nat.gcd m a ∣ a * y % m := (Nat.dvd_mod_iff h2).mpr h1
  rw [hy, Nat.dvd_mod_iff h2] at h3
  exact Nat.dvd_one.mp h3
theorem bvI_no {m a v x y : Nat} (hm : 0 < m) (hv : v ≠ 1) (h : bvI m a 0 v x y) : inv? m a = none := by
  refine gcd_no hm ?_
  rw [← h.2.2.2.2.2.1, Nat.gcd_zero_left]
  exact hv
theorem un_un {f : Nat → Nat} {i v w : Nat} : un (un f i v) i w = un f i w := by
  funext j
  unfold un
  split <;> rfl
theorem BB9 {x y z : Nat} (hx : x < z) (hy : y ≤ z) (hz : z < BB ^ 9) : x + y < BB ^ 10 := by
  have : BB ^ 10 = BB ^ 9 * 2147483648 := rfl
  omega
section NM6
variable {p : Program} {l : Launch} {e : Env} {R : Room} {s : State} {m : MethodId} {args : Array Value} {below : List Frame} {meth : Method} {c : Code} {Q : State → Prop} {cells slots : Nat} {ret : Option FieldType} {D : va_G} {kA : Nat → ClassId} {N0 : Nat}
set_option maxRecDepth 100000 in
theorem c6_rest (l : Launch) (D : va_G) (kA : Nat → ClassId) (N0 : Nat) (M0 M : xM) (g to n t : Nat) (B : Int32 × Int32 × Int32 × Int32) (N : Nat → Nat) (hm : MN kA M0 M g B N) (hto : to < 30) (hn : n < 30) (ht : t < 30) (hpos : 0 < N t) : cV l yX6_rest wsX6_rest (xR 3) [.ref g, .int (nI to), .int (nI n), .int (nI t)] D kA N0 M (fun M1 => MN kA M0 M1 g B (un N to (N n % N t))) := by
  obtain ⟨us, hob⟩ := hm.1
  refine r_mV (cc := cX6_rest) (maxL := 4) (by decide) rfl (Nat.le_of_ble_eq_true rfl) ?_
  intro p e s m below meth c ls A0 Qp C hM hnm hl hend
  obtain ⟨hx, hb, hml, hown, hts, hr, hlocks, hK, hN⟩ := _root_.id C
  have hS : va_S (xA N0) s.heap s.heap [] := va_S.rf
  have hl : lv_has ls 4 [(0, .ref g), (1, .int (nI to)), (2, .int (nI n)), (3, .int (nI t))] := hl
  refine lv_aload_n hx hb dX6_rest_0 rfl (lv_at hl 0 rfl) ?_
  refine lv_iload_n hx hb dX6_rest_1 rfl (lv_at hl 2 rfl) ?_
  refine r_Vv (As := [.int (nI n)]) (rest := []) C hM hS (c6_toU l D kA N0 M0 M g n B N hm hn) (hob) rfl gX6_rest_X6_toU rfl rfl rfl ⟨rfl, by decide +kernel, by decide +kernel, (by decide +kernel : (parseMethodDescriptor yX6_toU.desc).map (fun d => d.parameters.length) = some 1)⟩ ⟨Nat.le_of_ble_eq_true rfl, Nat.le_of_ble_eq_true rfl⟩ hl.1 rfl (Nat.le_of_ble_eq_true rfl) dX6_rest_2 ⟨Nat.le_of_ble_eq_true rfl, Nat.le_of_ble_eq_true rfl⟩ (fun M1 H locs hp hM hS => ?_)
  obtain ⟨hm1, hob1, f, hf, nf, hV, hz⟩ := hp
  refine lv_aload_n hx hb dX6_rest_5 rfl (lv_at hl 0 rfl) ?_
  refine lv_iload_n hx hb dX6_rest_6 rfl (lv_at hl 3 rfl) ?_
  refine lv_iload_n hx hb dX6_rest_7 rfl (lv_at hl 1 rfl) ?_
  refine r_Vv (As := [.int (nI t), .int (nI to)]) (rest := []) C hM hS (c6_divide l D kA N0 M0 M1 g t to 10 (N n) B N f hm1 hob1 hf nf hV hz (Or.inl rfl) ht hto hpos) (hob1) rfl gX6_rest_X6_divide rfl rfl rfl ⟨rfl, by decide +kernel, by decide +kernel, (by decide +kernel : (parseMethodDescriptor yX6_divide.desc).map (fun d => d.parameters.length) = some 2)⟩ ⟨Nat.le_of_ble_eq_true rfl, Nat.le_of_ble_eq_true rfl⟩ hl.1 rfl (Nat.le_of_ble_eq_true rfl) dX6_rest_8 ⟨Nat.le_of_ble_eq_true rfl, Nat.le_of_ble_eq_true rfl⟩ (fun M2 H locs hp hM hS => ?_)
  exact hend _ _ _ _ _ hM hS (hp.1) dX6_rest_11
set_option maxRecDepth 100000 in
theorem c6_times (l : Launch) (D : va_G) (kA : Nat → ClassId) (N0 : Nat) (M0 M : xM) (g to n k t : Nat) (B : Int32 × Int32 × Int32 × Int32) (N : Nat → Nat) (hm : MN kA M0 M g B N) (hto : to < 30) (hn : n < 30) (hk : k < 30) (ht : t < 30) (hpos : 0 < N t) : cV l yX6_times wsX6_times (xR 3) [.ref g, .int (nI to), .int (nI n), .int (nI k), .int (nI t)] D kA N0 M (fun M1 => MN kA M0 M1 g B (un N to (N n * N k % N t))) := by
  obtain ⟨us, hob⟩ := hm.1
  refine r_mV (cc := cX6_times) (maxL := 5) (by decide) rfl (Nat.le_of_ble_eq_true rfl) ?_
  intro p e s m below meth c ls A0 Qp C hM hnm hl hend
  obtain ⟨hx, hb, hml, hown, hts, hr, hlocks, hK, hN⟩ := _root_.id C
  have hS : va_S (xA N0) s.heap s.heap [] := va_S.rf
  have hl : lv_has ls 5 [(0, .ref g), (1, .int (nI to)), (2, .int (nI n)), (3, .int (nI k)), (4, .int (nI t))] := hl
  refine lv_aload_n hx hb dX6_times_0 rfl (lv_at hl 0 rfl) ?_
  refine lv_iload_n hx hb dX6_times_1 rfl (lv_at hl 2 rfl) ?_
  refine lv_iload_n hx hb dX6_times_2 rfl (lv_at hl 3 rfl) ?_
  refine r_Vv (As := [.int (nI n), .int (nI k)]) (rest := []) C hM hS (c6_productToU l D kA N0 M0 M g n k B N hm hn hk) (hob) rfl gX6_times_X6_productToU rfl rfl rfl ⟨rfl, by decide +kernel, by decide +kernel, (by decide +kernel : (parseMethodDescriptor yX6_productToU.desc).map (fun d => d.parameters.length) = some 2)⟩ ⟨Nat.le_of_ble_eq_true rfl, Nat.le_of_ble_eq_true rfl⟩ hl.1 rfl (Nat.le_of_ble_eq_true rfl) dX6_times_3 ⟨Nat.le_of_ble_eq_true rfl, Nat.le_of_ble_eq_true rfl⟩ (fun M1 H locs hp hM hS => ?_)
  obtain ⟨hm1, hob1, f, hf, nf, hV, hz⟩ := hp
  refine lv_aload_n hx hb dX6_times_6 rfl (lv_at hl 0 rfl) ?_
  refine lv_iload hx hb dX6_times_7 (lv_at hl 4 rfl) ?_
  refine lv_iload_n hx hb dX6_times_9 rfl (lv_at hl 1 rfl) ?_
  refine r_Vv (As := [.int (nI t), .int (nI to)]) (rest := []) C hM hS (c6_divide l D kA N0 M0 M1 g t to 20 (N n * N k) B N f hm1 hob1 hf nf hV hz (Or.inr rfl) ht hto hpos) (hob1) rfl gX6_times_X6_divide rfl rfl rfl ⟨rfl, by decide +kernel, by decide +kernel, (by decide +kernel : (parseMethodDescriptor yX6_divide.desc).map (fun d => d.parameters.length) = some 2)⟩ ⟨Nat.le_of_ble_eq_true rfl, Nat.le_of_ble_eq_true rfl⟩ hl.1 rfl (Nat.le_of_ble_eq_true rfl) dX6_times_10 ⟨Nat.le_of_ble_eq_true rfl, Nat.le_of_ble_eq_true rfl⟩ (fun M2 H locs hp hM hS => ?_)
  exact hend _ _ _ _ _ hM hS (hp.1) dX6_times_13
set_option maxRecDepth 100000 in
theorem c6_sum (l : Launch) (D : va_G) (kA : Nat → ClassId) (N0 : Nat) (M0 M : xM) (g to n k t : Nat) (B : Int32 × Int32 × Int32 × Int32) (N : Nat → Nat) (hm : MN kA M0 M g B N) (hto : to < 30) (hn : n < 30) (hk : k < 30) (ht : t < 30) (hne : to ≠ t) (hxn : N n < N t) (hyk : N k < N t) (h9 : N t < BB ^ 9) : cV l yX6_sum wsX6_sum (xR 2) [.ref g, .int (nI to), .int (nI n), .int (nI k), .int (nI t)] D kA N0 M (fun M1 => MN kA M0 M1 g B (un N to ((N n + N k) % N t))) := by
  obtain ⟨us, hob⟩ := hm.1
  refine r_mV (cc := cX6_sum) (maxL := 5) (by decide) rfl (Nat.le_of_ble_eq_true rfl) ?_
  intro p e s m below meth c ls A0 Qp C hM hnm hl hend
  obtain ⟨hx, hb, hml, hown, hts, hr, hlocks, hK, hN⟩ := _root_.id C
  have hS : va_S (xA N0) s.heap s.heap [] := va_S.rf
  have hl : lv_has ls 5 [(0, .ref g), (1, .int (nI to)), (2, .int (nI n)), (3, .int (nI k)), (4, .int (nI t))] := hl
  refine lv_aload_n hx hb dX6_sum_0 rfl (lv_at hl 0 rfl) ?_
  refine lv_iload_n hx hb dX6_sum_1 rfl (lv_at hl 1 rfl) ?_
  refine lv_iload_n hx hb dX6_sum_2 rfl (lv_at hl 2 rfl) ?_
  refine lv_iload_n hx hb dX6_sum_3 rfl (lv_at hl 3 rfl) ?_
  refine r_Vv (As := [.int (nI to), .int (nI n), .int (nI k)]) (rest := []) C hM hS (c6_plus l D kA N0 M0 M g to n k B N hm hto hn hk (BB9 hxn (Nat.le_of_lt hyk) h9)) (hob) rfl gX6_sum_X6_plus rfl rfl rfl ⟨rfl, by decide +kernel, by decide +kernel, (by decide +kernel : (parseMethodDescriptor yX6_plus.desc).map (fun d => d.parameters.length) = some 3)⟩ ⟨Nat.le_of_ble_eq_true rfl, Nat.le_of_ble_eq_true rfl⟩ hl.1 rfl (Nat.le_of_ble_eq_true rfl) dX6_sum_4 ⟨Nat.le_of_ble_eq_true rfl, Nat.le_of_ble_eq_true rfl⟩ (fun M1 H locs hm1 hM hS => ?_)
  obtain ⟨us1, hob1⟩ := hm1.1
  refine lv_aload_n hx hb dX6_sum_7 rfl (lv_at hl 0 rfl) ?_
  refine lv_iload_n hx hb dX6_sum_8 rfl (lv_at hl 1 rfl) ?_
  refine lv_iload hx hb dX6_sum_9 (lv_at hl 4 rfl) ?_
  refine r_Vi (As := [.int (nI to), .int (nI t)]) (rest := []) C hM hS (c6_compare l D kA N0 M0 M1 g to t B _ hm1 hto ht) (hob1) rfl gX6_sum_X6_compare rfl rfl rfl ⟨rfl, by decide +kernel, by decide +kernel, (by decide +kernel : (parseMethodDescriptor yX6_compare.desc).map (fun d => d.parameters.length) = some 2)⟩ ⟨Nat.le_of_ble_eq_true rfl, Nat.le_of_ble_eq_true rfl⟩ hl.1 rfl (Nat.le_of_ble_eq_true rfl) dX6_sum_11 ⟨Nat.le_of_ble_eq_true rfl, Nat.le_of_ble_eq_true rfl⟩ (fun r M2 H locs hp hM hS => ?_)
  obtain ⟨eM, hr⟩ := hp
  rw [eM] at hM
  rw [un_s, un_n hne.symm] at hr
  rcases hr with ⟨er, hr⟩ | ⟨er, hr⟩ | ⟨er, hr⟩
  · rw [er]
    refine lv_if_lt (tgt := 25) hx hb dX6_sum_14 (by decide) (fun hc => ?_) (fun hc => ?_)
    · exact absurd hc (by decide)
    · refine lv_aload_n hx hb dX6_sum_17 rfl (lv_at hl 0 rfl) ?_
      refine lv_iload_n hx hb dX6_sum_18 rfl (lv_at hl 1 rfl) ?_
      refine lv_iload_n hx hb dX6_sum_19 rfl (lv_at hl 1 rfl) ?_
      refine lv_iload hx hb dX6_sum_20 (lv_at hl 4 rfl) ?_
      refine r_Vv (As := [.int (nI to), .int (nI to), .int (nI t)]) (rest := []) C hM hS (c6_minus l D kA N0 M0 M1 g to to t B _ hm1 hto hto ht (by rw [un_s, un_n hne.symm]; omega)) (hob1) rfl gX6_sum_X6_minus rfl rfl rfl ⟨rfl, by decide +kernel, by decide +kernel, (by decide +kernel : (parseMethodDescriptor yX6_minus.desc).map (fun d => d.parameters.length) = some 3)⟩ ⟨Nat.le_of_ble_eq_true rfl, Nat.le_of_ble_eq_true rfl⟩ hl.1 rfl (Nat.le_of_ble_eq_true rfl) dX6_sum_22 ⟨Nat.le_of_ble_eq_true rfl, Nat.le_of_ble_eq_true rfl⟩ (fun M3 H locs hm3 hM hS => ?_)
      rw [un_s, un_n hne.symm, un_un] at hm3
      have e9 : (N n + N k) % N t = N n + N k - N t := by rw [hr, Nat.mod_self, Nat.sub_self]
      rw [← e9] at hm3
      exact hend _ _ _ _ _ hM hS (hm3) dX6_sum_25
  · rw [er]
    refine lv_if_lt (tgt := 25) hx hb dX6_sum_14 (by decide) (fun hc => ?_) (fun hc => ?_)
    · have e9 : (N n + N k) % N t = N n + N k := Nat.mod_eq_of_lt hr
      rw [← e9] at hm1
      exact hend _ _ _ _ _ hM hS (hm1) dX6_sum_25
    · exact absurd (by decide) hc
  · rw [er]
    refine lv_if_lt (tgt := 25) hx hb dX6_sum_14 (by decide) (fun hc => ?_) (fun hc => ?_)
    · exact absurd hc (by decide)
    · refine lv_aload_n hx hb dX6_sum_17 rfl (lv_at hl 0 rfl) ?_
      refine lv_iload_n hx hb dX6_sum_18 rfl (lv_at hl 1 rfl) ?_
      refine lv_iload_n hx hb dX6_sum_19 rfl (lv_at hl 1 rfl) ?_
      refine lv_iload hx hb dX6_sum_20 (lv_at hl 4 rfl) ?_
      refine r_Vv (As := [.int (nI to), .int (nI to), .int (nI t)]) (rest := []) C hM hS (c6_minus l D kA N0 M0 M1 g to to t B _ hm1 hto hto ht (by rw [un_s, un_n hne.symm]; omega)) (hob1) rfl gX6_sum_X6_minus rfl rfl rfl ⟨rfl, by decide +kernel, by decide +kernel, (by decide +kernel : (parseMethodDescriptor yX6_minus.desc).map (fun d => d.parameters.length) = some 3)⟩ ⟨Nat.le_of_ble_eq_true rfl, Nat.le_of_ble_eq_true rfl⟩ hl.1 rfl (Nat.le_of_ble_eq_true rfl) dX6_sum_22 ⟨Nat.le_of_ble_eq_true rfl, Nat.le_of_ble_eq_true rfl⟩ (fun M3 H locs hm3 hM hS => ?_)
      rw [un_s, un_n hne.symm, un_un] at hm3
      have e9 : (N n + N k) % N t = N n + N k - N t := by rw [Nat.mod_eq_sub_mod (by omega), Nat.mod_eq_of_lt (by omega)]
      rw [← e9] at hm3
      exact hend _ _ _ _ _ hM hS (hm3) dX6_sum_25
set_option maxRecDepth 100000 in
theorem c6_difference (l : Launch) (D : va_G) (kA : Nat → ClassId) (N0 : Nat) (M0 M : xM) (g to n k t : Nat) (B : Int32 × Int32 × Int32 × Int32) (N : Nat → Nat) (hm : MN kA M0 M g B N) (hto : to < 30) (hn : n < 30) (hk : k < 30) (ht : t < 30) (hkn : k ≠ 9) (hxn : N n < N t) (hyk : N k < N t) (h9 : N t < BB ^ 9) : cV l yX6_difference wsX6_difference (xR 2) [.ref g, .int (nI to), .int (nI n), .int (nI k), .int (nI t)] D kA N0 M (fun M1 => ∃ z, MN kA M0 M1 g B (un (un N 9 z) to ((N n + (N t - N k)) % N t))) := by
  obtain ⟨us, hob⟩ := hm.1
  refine r_mV (cc := cX6_difference) (maxL := 5) (by decide) rfl (Nat.le_of_ble_eq_true rfl) ?_
  intro p e s m below meth c ls A0 Qp C hM hnm hl hend
  obtain ⟨hx, hb, hml, hown, hts, hr, hlocks, hK, hN⟩ := _root_.id C
  have hS : va_S (xA N0) s.heap s.heap [] := va_S.rf
  have hl : lv_has ls 5 [(0, .ref g), (1, .int (nI to)), (2, .int (nI n)), (3, .int (nI k)), (4, .int (nI t))] := hl
  refine lv_aload_n hx hb dX6_difference_0 rfl (lv_at hl 0 rfl) ?_
  refine lv_iload_n hx hb dX6_difference_1 rfl (lv_at hl 2 rfl) ?_
  refine lv_iload_n hx hb dX6_difference_2 rfl (lv_at hl 3 rfl) ?_
  refine r_Vi (As := [.int (nI n), .int (nI k)]) (rest := []) C hM hS (c6_compare l D kA N0 M0 M g n k B N hm hn hk) (hob) rfl gX6_difference_X6_compare rfl rfl rfl ⟨rfl, by decide +kernel, by decide +kernel, (by decide +kernel : (parseMethodDescriptor yX6_compare.desc).map (fun d => d.parameters.length) = some 2)⟩ ⟨Nat.le_of_ble_eq_true rfl, Nat.le_of_ble_eq_true rfl⟩ hl.1 rfl (Nat.le_of_ble_eq_true rfl) dX6_difference_3 ⟨Nat.le_of_ble_eq_true rfl, Nat.le_of_ble_eq_true rfl⟩ (fun r M1 H locs hp hM hS => ?_)
  obtain ⟨eM, hr⟩ := hp
  rw [eM] at hM
  by_cases hge : N k ≤ N n
  · have hr0 : ¬ r < 0 := by
      rcases hr with ⟨er, hr⟩ | ⟨er, hr⟩ | ⟨er, hr⟩
      · rw [er]; decide
      · omega
      · rw [er]; decide
    refine lv_if_lt (tgt := 19) hx hb dX6_difference_6 (by decide) (fun hc => ?_) (fun hc => ?_)
    · exact absurd hc hr0
    · refine lv_aload_n hx hb dX6_difference_9 rfl (lv_at hl 0 rfl) ?_
      refine lv_iload_n hx hb dX6_difference_10 rfl (lv_at hl 1 rfl) ?_
      refine lv_iload_n hx hb dX6_difference_11 rfl (lv_at hl 2 rfl) ?_
      refine lv_iload_n hx hb dX6_difference_12 rfl (lv_at hl 3 rfl) ?_
      refine r_Vv (As := [.int (nI to), .int (nI n), .int (nI k)]) (rest := []) C hM hS (c6_minus l D kA N0 M0 M g to n k B N hm hto hn hk hge) (hob) rfl gX6_difference_X6_minus rfl rfl rfl ⟨rfl, by decide +kernel, by decide +kernel, (by decide +kernel : (parseMethodDescriptor yX6_minus.desc).map (fun d => d.parameters.length) = some 3)⟩ ⟨Nat.le_of_ble_eq_true rfl, Nat.le_of_ble_eq_true rfl⟩ hl.1 rfl (Nat.le_of_ble_eq_true rfl) dX6_difference_13 ⟨Nat.le_of_ble_eq_true rfl, Nat.le_of_ble_eq_true rfl⟩ (fun M3 H locs hm3 hM hS => ?_)
      have e9 : (N n + (N t - N k)) % N t = N n - N k := by rw [show N n + (N t - N k) = N n - N k + N t by omega, Nat.add_mod_right, Nat.mod_eq_of_lt (by omega)]
      rw [← e9] at hm3
      have hm3 : ∃ z, MN kA M0 M3 g B (un (un N 9 z) to ((N n + (N t - N k)) % N t)) := ⟨N 9, by rw [un_id N 9]; exact hm3⟩
      refine lv_goto (tgt := 36) hx hb dX6_difference_16 (by decide) ?_
      exact hend _ _ _ _ _ hM hS (hm3) dX6_difference_36
  · have hr0 : r < 0 := by
      rcases hr with ⟨er, hr⟩ | ⟨er, hr⟩ | ⟨er, hr⟩
      · omega
      · rw [er]; decide
      · omega
    refine lv_if_lt (tgt := 19) hx hb dX6_difference_6 (by decide) (fun hc => ?_) (fun hc => ?_)
    · refine lv_aload_n hx hb dX6_difference_19 rfl (lv_at hl 0 rfl) ?_
      refine lv_bipush (v := nI 9) hx hb dX6_difference_20 (by decide) ?_
      refine lv_iload_n hx hb dX6_difference_22 rfl (lv_at hl 2 rfl) ?_
      refine lv_iload hx hb dX6_difference_23 (lv_at hl 4 rfl) ?_
      refine r_Vv (As := [.int (nI 9), .int (nI n), .int (nI t)]) (rest := []) C hM hS (c6_plus l D kA N0 M0 M g 9 n t B N hm (by omega) hn ht (BB9 hxn (Nat.le_refl _) h9)) (hob) rfl gX6_difference_X6_plus rfl rfl rfl ⟨rfl, by decide +kernel, by decide +kernel, (by decide +kernel : (parseMethodDescriptor yX6_plus.desc).map (fun d => d.parameters.length) = some 3)⟩ ⟨Nat.le_of_ble_eq_true rfl, Nat.le_of_ble_eq_true rfl⟩ hl.1 rfl (Nat.le_of_ble_eq_true rfl) dX6_difference_25 ⟨Nat.le_of_ble_eq_true rfl, Nat.le_of_ble_eq_true rfl⟩ (fun M2 H locs hm2 hM hS => ?_)
      obtain ⟨us2, hob2⟩ := hm2.1
      refine lv_aload_n hx hb dX6_difference_28 rfl (lv_at hl 0 rfl) ?_
      refine lv_iload_n hx hb dX6_difference_29 rfl (lv_at hl 1 rfl) ?_
      refine lv_bipush (v := nI 9) hx hb dX6_difference_30 (by decide) ?_
      refine lv_iload_n hx hb dX6_difference_32 rfl (lv_at hl 3 rfl) ?_
      refine r_Vv (As := [.int (nI to), .int (nI 9), .int (nI k)]) (rest := []) C hM hS (c6_minus l D kA N0 M0 M2 g to 9 k B _ hm2 hto (by omega) hk (by rw [un_s, un_n hkn]; omega)) (hob2) rfl gX6_difference_X6_minus rfl rfl rfl ⟨rfl, by decide +kernel, by decide +kernel, (by decide +kernel : (parseMethodDescriptor yX6_minus.desc).map (fun d => d.parameters.length) = some 3)⟩ ⟨Nat.le_of_ble_eq_true rfl, Nat.le_of_ble_eq_true rfl⟩ hl.1 rfl (Nat.le_of_ble_eq_true rfl) dX6_difference_33 ⟨Nat.le_of_ble_eq_true rfl, Nat.le_of_ble_eq_true rfl⟩ (fun M3 H locs hm3 hM hS => ?_)
      rw [un_s, un_n hkn] at hm3
      have e9 : (N n + (N t - N k)) % N t = N n + N t - N k := by rw [show N n + (N t - N k) = N n + N t - N k by omega, Nat.mod_eq_of_lt (by omega)]
      rw [← e9] at hm3
      exact hend _ _ _ _ _ hM hS (⟨_, hm3⟩) dX6_difference_36
    · exact absurd hr0 hc
set_option maxRecDepth 100000 in
theorem c6_halveModulo (l : Launch) (D : va_G) (kA : Nat → ClassId) (N0 : Nat) (M0 M : xM) (g n t : Nat) (B : Int32 × Int32 × Int32 × Int32) (N : Nat → Nat) (hm : MN kA M0 M g B N) (hn : n < 30) (ht : t < 30) (hxn : N n < N t) (h9 : N t < BB ^ 9) : cV l yX6_halveModulo wsX6_halveModulo (xR 2) [.ref g, .int (nI n), .int (nI t)] D kA N0 M (fun M1 => MN kA M0 M1 g B (un N n (hmo (N t) (N n)))) := by
  obtain ⟨us, hob⟩ := hm.1
  refine r_mV (cc := cX6_halveModulo) (maxL := 3) (by decide) rfl (Nat.le_of_ble_eq_true rfl) ?_
  intro p e s m below meth c ls A0 Qp C hM hnm hl hend
  obtain ⟨hx, hb, hml, hown, hts, hr, hlocks, hK, hN⟩ := _root_.id C
  have hS : va_S (xA N0) s.heap s.heap [] := va_S.rf
  have hl : lv_has ls 3 [(0, .ref g), (1, .int (nI n)), (2, .int (nI t))] := hl
  refine lv_aload_n hx hb dX6_halveModulo_0 rfl (lv_at hl 0 rfl) ?_
  refine lv_iload_n hx hb dX6_halveModulo_1 rfl (lv_at hl 1 rfl) ?_
  refine r_Vi (As := [.int (nI n)]) (rest := []) C hM hS (c6_isOdd l D kA N0 M0 M g n B N hm hn) (hob) rfl gX6_halveModulo_X6_isOdd rfl rfl rfl ⟨rfl, by decide +kernel, by decide +kernel, (by decide +kernel : (parseMethodDescriptor yX6_isOdd.desc).map (fun d => d.parameters.length) = some 1)⟩ ⟨Nat.le_of_ble_eq_true rfl, Nat.le_of_ble_eq_true rfl⟩ hl.1 rfl (Nat.le_of_ble_eq_true rfl) dX6_halveModulo_2 ⟨Nat.le_of_ble_eq_true rfl, Nat.le_of_ble_eq_true rfl⟩ (fun r M1 H locs hp hM hS => ?_)
  obtain ⟨eM, hr⟩ := hp
  rw [eM] at hM
  rcases hr with ⟨er, hr⟩ | ⟨er, hr⟩
  · rw [er]
    refine lv_if_eq (tgt := 15) hx hb dX6_halveModulo_5 (by decide) (fun hc => ?_) (fun hc => ?_)
    · exact absurd hc (by decide)
    · refine lv_aload_n hx hb dX6_halveModulo_8 rfl (lv_at hl 0 rfl) ?_
      refine lv_iload_n hx hb dX6_halveModulo_9 rfl (lv_at hl 1 rfl) ?_
      refine lv_iload_n hx hb dX6_halveModulo_10 rfl (lv_at hl 1 rfl) ?_
      refine lv_iload_n hx hb dX6_halveModulo_11 rfl (lv_at hl 2 rfl) ?_
      refine r_Vv (As := [.int (nI n), .int (nI n), .int (nI t)]) (rest := []) C hM hS (c6_plus l D kA N0 M0 M g n n t B N hm hn hn ht (BB9 hxn (Nat.le_refl _) h9)) (hob) rfl gX6_halveModulo_X6_plus rfl rfl rfl ⟨rfl, by decide +kernel, by decide +kernel, (by decide +kernel : (parseMethodDescriptor yX6_plus.desc).map (fun d => d.parameters.length) = some 3)⟩ ⟨Nat.le_of_ble_eq_true rfl, Nat.le_of_ble_eq_true rfl⟩ hl.1 rfl (Nat.le_of_ble_eq_true rfl) dX6_halveModulo_12 ⟨Nat.le_of_ble_eq_true rfl, Nat.le_of_ble_eq_true rfl⟩ (fun M2 H locs hm2 hM hS => ?_)
      obtain ⟨us2, hob2⟩ := hm2.1
      refine lv_aload_n hx hb dX6_halveModulo_15 rfl (lv_at hl 0 rfl) ?_
      refine lv_iload_n hx hb dX6_halveModulo_16 rfl (lv_at hl 1 rfl) ?_
      refine r_Vv (As := [.int (nI n)]) (rest := []) C hM hS (c6_halve l D kA N0 M0 M2 g n B _ hm2 hn) (hob2) rfl gX6_halveModulo_X6_halve rfl rfl rfl ⟨rfl, by decide +kernel, by decide +kernel, (by decide +kernel : (parseMethodDescriptor yX6_halve.desc).map (fun d => d.parameters.length) = some 1)⟩ ⟨Nat.le_of_ble_eq_true rfl, Nat.le_of_ble_eq_true rfl⟩ hl.1 rfl (Nat.le_of_ble_eq_true rfl) dX6_halveModulo_17 ⟨Nat.le_of_ble_eq_true rfl, Nat.le_of_ble_eq_true rfl⟩ (fun M3 H locs hm3 hM hS => ?_)
      rw [un_s, un_un] at hm3
      have e9 : hmo (N t) (N n) = (N n + N t) / 2 := by unfold hmo; rw [if_pos hr]
      rw [← e9] at hm3
      exact hend _ _ _ _ _ hM hS (hm3) dX6_halveModulo_20
  · rw [er]
    refine lv_if_eq (tgt := 15) hx hb dX6_halveModulo_5 (by decide) (fun hc => ?_) (fun hc => ?_)
    · refine lv_aload_n hx hb dX6_halveModulo_15 rfl (lv_at hl 0 rfl) ?_
      refine lv_iload_n hx hb dX6_halveModulo_16 rfl (lv_at hl 1 rfl) ?_
      refine r_Vv (As := [.int (nI n)]) (rest := []) C hM hS (c6_halve l D kA N0 M0 M g n B N hm hn) (hob) rfl gX6_halveModulo_X6_halve rfl rfl rfl ⟨rfl, by decide +kernel, by decide +kernel, (by decide +kernel : (parseMethodDescriptor yX6_halve.desc).map (fun d => d.parameters.length) = some 1)⟩ ⟨Nat.le_of_ble_eq_true rfl, Nat.le_of_ble_eq_true rfl⟩ hl.1 rfl (Nat.le_of_ble_eq_true rfl) dX6_halveModulo_17 ⟨Nat.le_of_ble_eq_true rfl, Nat.le_of_ble_eq_true rfl⟩ (fun M3 H locs hm3 hM hS => ?_)
      have e9 : hmo (N t) (N n) = N n / 2 := by unfold hmo; rw [if_neg hr]
      rw [← e9] at hm3
      exact hend _ _ _ _ _ hM hS (hm3) dX6_halveModulo_20
    · exact absurd rfl hc
end NM6
