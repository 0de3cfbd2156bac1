theorem in_X6_divide_X6 : ∀ w ∈ wsX60, w ∈ wsX6_divide := by decide +kernel
/-- the model's rows that a division reckons with -/
def DV (kA : Nat → ClassId) (M0 M : xM) (g : Nat) (B : Int32 × Int32 × Int32 × Int32) (us : Int32) (u v q F : Nat → Int32) : Prop := M g = some (oMd g B us) ∧ M (g + 3) = some (xI (kA 0) 300 F) ∧ M (g + 5) = some (xI (kA 0) 24 u) ∧ M (g + 6) = some (xI (kA 0) 12 v) ∧ M (g + 7) = some (xI (kA 0) 24 q) ∧ (∀ b, b ≠ g → b ≠ g + 3 → b ≠ g + 5 → b ≠ g + 6 → b ≠ g + 7 → M b = M0 b)
section DVS
variable {kA : Nat → ClassId} {M0 M : xM} {g : Nat} {B : Int32 × Int32 × Int32 × Int32} {us : Int32} {u v q F : Nat → Int32} {N : Nat → Nat}
theorem DV.su (h : DV kA M0 M g B us u v q F) (u' : Nat → Int32) : DV kA M0 (xset M (g + 5) (xI (kA 0) 24 u')) g B us u' v q F := by
  obtain ⟨h1, h2, h3, h4, h5, h6⟩ := h
  exact ⟨by rw [xset_n (by omega)]; exact h1, by rw [xset_n (by omega)]; exact h2, xset_s, by rw [xset_n (by omega)]; exact h4, by rw [xset_n (by omega)]; exact h5, fun b b1 b2 b3 b4 b5 => by rw [xset_n b3]; exact h6 b b1 b2 b3 b4 b5⟩
theorem DV.sv (h : DV kA M0 M g B us u v q F) (v' : Nat → Int32) : DV kA M0 (xset M (g + 6) (xI (kA 0) 12 v')) g B us u v' q F := by
  obtain ⟨h1, h2, h3, h4, h5, h6⟩ := h
  exact ⟨by rw [xset_n (by omega)]; exact h1, by rw [xset_n (by omega)]; exact h2, by rw [xset_n (by omega)]; exact h3, xset_s, by rw [xset_n (by omega)]; exact h5, fun b b1 b2 b3 b4 b5 => by rw [xset_n b4]; exact h6 b b1 b2 b3 b4 b5⟩
theorem DV.sq (h : DV kA M0 M g B us u v q F) (q' : Nat → Int32) : DV kA M0 (xset M (g + 7) (xI (kA 0) 24 q')) g B us u v q' F := by
  obtain ⟨h1, h2, h3, h4, h5, h6⟩ := h
  exact ⟨by rw [xset_n (by omega)]; exact h1, by rw [xset_n (by omega)]; exact h2, by rw [xset_n (by omega)]; exact h3, by rw [xset_n (by omega)]; exact h4, xset_s, fun b b1 b2 b3 b4 b5 => by rw [xset_n b5]; exact h6 b b1 b2 b3 b4 b5⟩
theorem DV.sF (h : DV kA M0 M g B us u v q F) (F' : Nat → Int32) : DV kA M0 (xset M (g + 3) (xI (kA 0) 300 F')) g B us u v q F' := by
  obtain ⟨h1, h2, h3, h4, h5, h6⟩ := h
  exact ⟨by rw [xset_n (by omega)]; exact h1, xset_s, by rw [xset_n (by omega)]; exact h3, by rw [xset_n (by omega)]; exact h4, by rw [xset_n (by omega)]; exact h5, fun b b1 b2 b3 b4 b5 => by rw [xset_n b2]; exact h6 b b1 b2 b3 b4 b5⟩
theorem DV.mn (h : DV kA M0 M g B us u v q F) (hn : Nf F N) : MN kA M0 M g B N := by
  obtain ⟨h1, h2, h3, h4, h5, h6⟩ := h
  exact ⟨⟨us, h1⟩, ⟨F, h2, hn⟩, ⟨u, h3⟩, ⟨v, h4⟩, ⟨q, h5⟩, h6⟩
theorem MN.dv (h : MN kA M0 M g B N) {us : Int32} {u : Nat → Int32} (h1 : M g = some (oMd g B us)) (hu : M (g + 5) = some (xI (kA 0) 24 u)) : ∃ v q F, DV kA M0 M g B us u v q F ∧ Nf F N := by
  obtain ⟨-, ⟨F, h2, h3⟩, -, ⟨v, h5⟩, ⟨q, h6⟩, h7⟩ := h
  exact ⟨v, q, F, ⟨h1, h2, hu, h5, h6, h7⟩, h3⟩
end DVS
theorem s_sm : ∀ k, k < 32 → ((nI k &&& 31).toBitVec.smod 32).toNat = k := by decide +kernel
theorem bit30 {x : Nat} (h : x < 2147483648) : nI x &&& nI 1073741824 = 0 ↔ x < 1073741824 := by
  have e : (nI x &&& nI 1073741824).toBitVec.toNat = x &&& 1073741824 := by
    rw [Int32.toBitVec_and, BitVec.toNat_and, pk_tn (by omega), pk_tn (by decide)]
  constructor
  · intro q
    rw [q] at e
    have e : 0 = x &&& 1073741824 := e
    rcases Nat.lt_or_ge x 1073741824 with h1 | h1
    · exact h1
    · exfalso
      have h2 := congrArg (fun z => Nat.testBit z 30) e
      have h3 : Nat.testBit x 30 = true := by
        rw [Nat.testBit_eq_decide_div_mod_eq]
        simp
        omega
      simp [h3] at h2
      exact absurd h2 (by decide)
  · intro q
    apply Int32.toBitVec_inj.mp
    apply BitVec.eq_of_toNat_eq
    rw [e]
    show _ = 0
    have h1 : x < 2 ^ 30 := q
    apply Nat.eq_of_testBit_eq
    intro i
    rw [Nat.testBit_and, Nat.zero_testBit]
    by_cases hi : i = 30
    · subst hi
      rw [Nat.testBit_lt_two_pow h1]
      rfl
    · have : Nat.testBit 1073741824 i = false := by
        show Nat.testBit (2 ^ 30) i = false
        rw [Nat.testBit_two_pow]
        simp
        omega
      rw [this, Bool.and_false]
theorem sh_or {a b sh : Nat} (ha : a < BB) (hb : b < BB) (hs : sh < 31) : nI (a * 2 ^ sh % BB) ||| nI (b / 2 ^ (31 - sh)) = nI ((a * BB + b) / 2 ^ (31 - sh) % BB) := by
  have hB : BB = 2 ^ (31 - sh) * 2 ^ sh := by rw [← Nat.pow_add, show 31 - sh + sh = 31 by omega]; rfl
  have hB2 : BB = 2147483648 := rfl
  have h1 : a * 2 ^ sh % BB = a % 2 ^ (31 - sh) * 2 ^ sh := by rw [hB, Nat.mul_mod_mul_right]
  have h2 : b / 2 ^ (31 - sh) < 2 ^ sh := Nat.div_lt_of_lt_mul (by rw [← hB]; exact hb)
  have h3 : a * 2 ^ sh % BB < BB := Nat.mod_lt _ BB_pos
  have h4 : 2 ^ sh ≤ 2 ^ 30 := Nat.pow_le_pow_right (by decide) (by omega)
  rw [sh_limb hs hb, ior_n (by omega) (by omega), Nat.or_comm, h1, or_add h2, Nat.add_comm]
theorem ush_or {a b sh : Nat} (ha : a < BB) (hb : b < BB) (hs : sh < 31) (hs0 : 0 < sh) : nI (b / 2 ^ sh) ||| nI (a * 2 ^ (31 - sh) % BB) = nI ((a * BB + b) / 2 ^ sh % BB) := by
  have h := sh_or ha hb (sh := 31 - sh) (by omega)
  rw [show 31 - (31 - sh) = sh by omega] at h
  have hB2 : BB = 2147483648 := rfl
  have h3 : a * 2 ^ (31 - sh) % BB < BB := Nat.mod_lt _ BB_pos
  have h5 : b / 2 ^ sh ≤ b := Nat.div_le_self _ _
  rw [← h, ior_n (by omega) (by omega), ior_n (by omega) (by omega), Nat.or_comm]
/-- what a limb takes in from the one below it -/
def lwv (f : Nat → Int32) (sh i : Nat) : Nat := if i = 0 then 0 else dg (f (i - 1)) / 2 ^ (31 - sh)
theorem lwv_or {f : Nat → Int32} {sh i : Nat} (hs : sh < 31) : nI (dg (f i) * 2 ^ sh % BB) ||| nI (lwv f sh i) = nI (shl f 0 sh i) := by
  unfold lwv
  by_cases hi : i = 0
  · rw [if_pos hi, hi, shl_0 f hs]
    have hB2 : BB = 2147483648 := rfl
    have h3 : dg (f 0) * 2 ^ sh % BB < BB := Nat.mod_lt _ BB_pos
    rw [ior_n (by omega) (by omega), Nat.or_zero]
  · rw [if_neg hi]
    obtain ⟨k, ek⟩ : ∃ k, i = k + 1 := ⟨i - 1, by omega⟩
    rw [ek, Nat.add_sub_cancel, shl_s]
    exact sh_or (dg_lt _) (dg_lt _) hs
theorem lwv_0 {f : Nat → Int32} {sh i : Nat} (h : sh = 0 ∨ i = 0) : lwv f sh i = 0 := by
  unfold lwv
  rcases h with q | q
  · split
    · rfl
    · rw [q]
      exact Nat.div_eq_of_lt (dg_lt _)
  · rw [if_pos q]
theorem shl_nn {f : Nat → Int32} {sh i : Nat} : 0 ≤ (nI (shl f 0 sh i)).toInt := by
  have := shl_lt f 0 sh i
  have hB2 : BB = 2147483648 := rfl
  rw [t_nI (by omega)]
  omega
theorem qd_st {X A V1 P r0 R d lo : Nat} (h : X = A * V1 + (lo + P * r0)) (hd : r0 = d * V1 + R) : X = (A + d * P) * V1 + (lo + P * R) := by
  rw [h, hd, Nat.mul_add, Nat.add_mul, ← Nat.mul_assoc, Nat.mul_comm P d]
  omega
section NM5
variable {p : Program} {l : Launch} {e : Env} {R : Room} {s : State} {m : MethodId} {args : Array Value} {below : List Frame} {meth : Method} {c : Code} {Q : State → Prop} {cells slots : Nat} {ret : Option FieldType} {D : va_G} {kA : Nat → ClassId} {N0 : Nat}
set_option maxRecDepth 100000 in
theorem c6_divide (l : Launch) (D : va_G) (kA : Nat → ClassId) (N0 : Nat) (M0 M : xM) (g by9 to us X : Nat) (B : Int32 × Int32 × Int32 × Int32) (N : Nat → Nat) (f : Nat → Int32) (hm : MN kA M0 M g B N) (hob : M g = some (oMd g B (nI us))) (hu : M (g + 5) = some (xI (kA 0) 24 f)) (nf : nn f 24) (hX : V f us = X) (hz : ∀ j, us ≤ j → j < 24 → f j = 0) (hus : us = 10 ∨ us = 20) (hby : by9 < 30) (hto : to < 30) (hpos : 0 < N by9) : cV l yX6_divide wsX6_divide (xR 2) [.ref g, .int (nI by9), .int (nI to)] D kA N0 M (fun M1 => MN kA M0 M1 g B (un N to (X % N by9)) ∧ ∃ qf, M1 (g + 7) = some (xI (kA 0) 24 qf) ∧ nn qf 24 ∧ V qf 24 = X / N by9) := by
  obtain ⟨v0, q0, E0, dv0, hnf⟩ := hm.dv hob hu
  have hB : BB = 2147483648 := rfl
  obtain ⟨Ef, eEf⟩ : ∃ Ef : Nat → Int32, Ef = fun j => E0 (10 * by9 + j) := ⟨_, rfl⟩
  have hEf : ∀ j, Ef j = E0 (10 * by9 + j) := fun j => by rw [eEf]
  have nE : nn Ef 10 := fun j hj => by rw [hEf]; exact hnf.nn9 hby hj
  have hVE : V Ef 10 = N by9 := by rw [← hnf.2 by9 hby, Vw_V, eEf]
  refine r_mV (cc := cX6_divide) (maxL := 8) (by decide) rfl (Nat.le_of_ble_eq_true rfl) ?_
  intro p e s m below meth c ls A0 Qp C hM hnm hl hend
  obtain ⟨hx, hb, hml, hown, hts, hr, hlocks, hK, hN⟩ := _root_.id C
  have hS : va_S (xA N0) s.heap s.heap [] := va_S.rf
  have hl : lv_has ls 8 [(0, .ref g), (1, .int (nI by9)), (2, .int (nI to))] := hl
  refine lv_aload_n hx hb dX6_divide_0 rfl (lv_at hl 0 rfl) ?_
  refine lv_iload_n hx hb dX6_divide_1 rfl (lv_at hl 1 rfl) ?_
  refine r_Vi (As := [.int (nI by9)]) (rest := []) C hM hS (c6_length l D kA N0 M g by9 B (nI us) E0 hob dv0.2.1 hby) (hob) rfl gX6_divide_X6_length rfl rfl rfl ⟨rfl, by decide +kernel, by decide +kernel, (by decide +kernel : (parseMethodDescriptor yX6_length.desc).map (fun d => d.parameters.length) = some 1)⟩ ⟨Nat.le_of_ble_eq_true rfl, Nat.le_of_ble_eq_true rfl⟩ hl.1 rfl (Nat.le_of_ble_eq_true rfl) dX6_divide_2 ⟨Nat.le_of_ble_eq_true rfl, Nat.le_of_ble_eq_true rfl⟩ (fun vn M1 H locs hp hM hS => ?_)
  obtain ⟨eM, n, evn, hn10, hnz, hnt⟩ := hp
  rw [eM] at hM
  rw [evn]
  have hVn : V Ef n = N by9 := by
    rw [← hVE]
    exact (V_top hn10 (fun j h1 h2 => by rw [hEf]; exact hnz j h1 h2)).symm
  have hn0 : 0 < n := by
    rcases Nat.eq_zero_or_pos n with q | q
    · rw [q, V_0] at hVn; omega
    · exact q
  have htop : 0 < dg (Ef (n - 1)) := by
    rcases Nat.eq_zero_or_pos (dg (Ef (n - 1))) with q | q
    · exfalso
      have h1 := nI_dg (nE (n - 1) (by omega))
      rw [q] at h1
      exact hnt hn0 (by rw [← hEf]; exact h1)
    · exact q
  have htl := dg_lt (Ef (n - 1))
  -- the rest goes back
  have lp7 : ∀ (sh : Nat) (u v q : Nat → Int32) (hsh : sh < 31) (nu : nn u 24) (nq : nn q 24) (hun : u n = 0) (hVu : V u n = X % N by9 * 2 ^ sh) (hVq : V q 24 = X / N by9) (k i : Nat) (F : Nat → Int32) (M1 : xM) (H : Heap) (locs : List Loc) (ls : Array Slot), i + k = 10 → DV kA M0 M1 g B (nI us) u v q F → Lp E0 F to i (V (fun j => nI ((dg (u (j + 1)) * BB + dg (u j)) / 2 ^ sh % BB)) (if i < n then i else n)) → xW D vwCl N0 M1 H → va_S (xA N0) s.heap H locs → lv_has ls 8 [(5, .int (nI i)), (4, .int (nI sh)), (3, .int (nI n)), (0, .ref g), (1, .int (nI by9)), (2, .int (nI to))] → W p l e (xR 2) s m A0 below meth c H locs 0 0 Qp (F0 m 240 ls []) := by
    intro sh u v q hsh nu nq hun hVu hVq k
    have hVo : V (fun j => nI ((dg (u (j + 1)) * BB + dg (u j)) / 2 ^ sh % BB)) n = X % N by9 := V_ushr hsh (fun j => rfl) hun hVu hn0
    induction k with
    | zero =>
      intro i F M1 H locs ls hik hdv hL hM hS hl
      refine lv_iload hx hb dX6_divide_240 (lv_at hl 0 rfl) ?_
      refine lv_bipush (v := nI 10) hx hb dX6_divide_242 (by decide) ?_
      refine r_icmp_geN (tgt := 323) C (by omega) (by omega) dX6_divide_244 (by decide) (fun hc => ?_) (fun hc => ?_)
      · have hi10 : i = 10 := by omega
        rw [hi10, if_neg (by omega), hVo] at hL
        exact hend _ _ _ _ _ hM hS (⟨hdv.mn (hL.fin hnf hto), q, hdv.2.2.2.2.1, nq, hVq⟩) dX6_divide_323
      · omega
    | succ k ih =>
      intro i F M1 H locs ls hik hdv hL hM hS hl
      have hob1 := hdv.1
      have hu1 := hdv.2.2.1
      have hset : ∀ (x : Int32) (H : Heap) (locs : List Loc) (ls : Array Slot), x = (if i < n then nI ((dg (u (i + 1)) * BB + dg (u i)) / 2 ^ sh % BB) else nI 0) → xW D vwCl N0 M1 H → va_S (xA N0) s.heap H locs → lv_has ls 8 [(5, .int (nI i)), (4, .int (nI sh)), (3, .int (nI n)), (0, .ref g), (1, .int (nI by9)), (2, .int (nI to))] → W p l e (xR 2) s m A0 below meth c H locs 0 0 Qp (F0 m 314 ls [.int x, .int (nI i), .int (nI to), .ref g]) := by
        intro x H locs ls ex hM hS hl
        refine r_Vv (As := [.int (nI to), .int (nI i), .int x]) (rest := []) C hM hS (c6_set l D kA N0 M1 g to i x B (nI us) F hob1 hdv.2.1 hto (by omega)) (hob1) rfl gX6_divide_X6_set rfl rfl rfl ⟨rfl, by decide +kernel, by decide +kernel, (by decide +kernel : (parseMethodDescriptor yX6_set.desc).map (fun d => d.parameters.length) = some 3)⟩ ⟨Nat.le_of_ble_eq_true rfl, Nat.le_of_ble_eq_true rfl⟩ hl.1 rfl (Nat.le_of_ble_eq_true rfl) dX6_divide_314 ⟨Nat.le_of_ble_eq_true rfl, Nat.le_of_ble_eq_true rfl⟩ (fun M2 H locs hp hM hS => ?_)
        rw [hp] at hM
        refine lv_iinc (v := nI (i + 1)) (lv' := [(5, .int (nI (i + 1))), (4, .int (nI sh)), (3, .int (nI n)), (0, .ref g), (1, .int (nI by9)), (2, .int (nI to))]) hx hb dX6_divide_317 hl (k := 0) rfl (r_inc _) (by decide) rfl (fun ls hl => ?_)
        refine lv_goto (tgt := 240) hx hb dX6_divide_320 (by decide) ?_
        have hmod : (dg (u (i + 1)) * BB + dg (u i)) / 2 ^ sh % BB < 2147483648 := Nat.mod_lt _ BB_pos
        refine ih (i + 1) _ _ H locs ls (by omega) (hdv.sF _) (hL.s ?_ ?_) hM hS (lv_sub hl [0, 1, 2, 3, 4, 5] rfl)
        · rw [ex]
          split
          · rw [t_nI (by omega)]; omega
          · decide
        · rw [ex]
          by_cases q1 : i < n
          · rw [if_pos q1, if_pos q1]
            by_cases q2 : i + 1 < n
            · rw [if_pos q2, V_s]
            · rw [if_neg q2, show n = i + 1 by omega, V_s]
          · rw [if_neg q1, if_neg q1, if_neg (by omega), dg_nI (by omega), Nat.zero_mul, Nat.add_zero]
      have hhi : ∀ (h9 : Int64) (H : Heap) (locs : List Loc) (ls : Array Slot), (i < n → h9.toInt32 = nI (if 0 < sh then dg (u (i + 1)) * 2 ^ (31 - sh) % BB else 0)) → xW D vwCl N0 M1 H → va_S (xA N0) s.heap H locs → lv_has ls 8 [(6, .long h9), (5, .int (nI i)), (4, .int (nI sh)), (3, .int (nI n)), (0, .ref g), (1, .int (nI by9)), (2, .int (nI to))] → W p l e (xR 2) s m A0 below meth c H locs 0 0 Qp (F0 m 286 ls []) := by
        intro h9 H locs ls eh hM hS hl
        have zu := nu i (by omega)
        have lu := dg_lt (u i)
        refine lv_aload_n hx hb dX6_divide_286 rfl (lv_at hl 4 rfl) ?_
        refine lv_iload_n hx hb dX6_divide_287 rfl (lv_at hl 6 rfl) ?_
        refine lv_iload hx hb dX6_divide_288 (lv_at hl 1 rfl) ?_
        refine lv_iload hx hb dX6_divide_290 (lv_at hl 1 rfl) ?_
        refine lv_iload_n hx hb dX6_divide_292 rfl (lv_at hl 3 rfl) ?_
        refine r_icmp_geN (tgt := 313) C (by omega) (by omega) dX6_divide_293 (by decide) (fun hc => ?_) (fun hc => ?_)
        · refine lv_iconst (v := nI 0) hx hb dX6_divide_313 (by decide) ?_
          exact hset _ H locs ls (by rw [if_neg (by omega)]) hM hS (lv_sub hl [1, 2, 3, 4, 5, 6] rfl)
        · have eh := eh (by omega)
          refine lv_aload_n hx hb dX6_divide_296 rfl (lv_at hl 4 rfl) ?_
          refine x_get (v := .ref (g + 5)) hx hb hts in_X6_divide_X6 hown hK hM (hob1) rfl 8 (by decide) (hts (.fieldLink RX6 27 "LimbCurvesModel" "u" "[I") (by decide +kernel)) (fun _ h9 => h9) rfl dX6_divide_297 ?_
          refine lv_iload hx hb dX6_divide_300 (lv_at hl 1 rfl) ?_
          refine r_iald C hM (hu1) rfl (by omega) (by omega) dX6_divide_302 ?_
          rw [nI_dg zu]
          refine lv_iload hx hb dX6_divide_303 (lv_at hl 2 rfl) ?_
          refine lv_ishr hx hb dX6_divide_305 ?_
          refine r_topi C (nI (dg (u i) / 2 ^ sh)) (pk_shrN (by omega) _ sh (s_sm sh (by omega))) ?_
          refine lv_lload hx hb dX6_divide_306 (lv_at hl 0 rfl) ?_
          refine lv_l2i (v := h9.toInt32) hx hb dX6_divide_308 rfl ?_
          rw [eh]
          refine lv_ior hx hb dX6_divide_309 ?_
          refine lv_goto (tgt := 314) hx hb dX6_divide_310 (by decide) ?_
          refine hset _ H locs ls ?_ hM hS (lv_sub hl [1, 2, 3, 4, 5, 6] rfl)
          rw [if_pos (show i < n by omega)]
          by_cases q : 0 < sh
          · rw [if_pos q]
            exact ush_or (dg_lt _) (dg_lt _) hsh q
          · rw [if_neg q, show sh = 0 by omega, Nat.pow_zero, Nat.div_one, Nat.div_one, Nat.add_comm, Nat.add_mul_mod_self_right, Nat.mod_eq_of_lt lu, ior_n (by omega) (by omega), Nat.or_zero]
      refine lv_iload hx hb dX6_divide_240 (lv_at hl 0 rfl) ?_
      refine lv_bipush (v := nI 10) hx hb dX6_divide_242 (by decide) ?_
      refine r_icmp_geN (tgt := 323) C (by omega) (by omega) dX6_divide_244 (by decide) (fun hc => ?_) (fun hc => ?_)
      · omega
      · refine lv_iload hx hb dX6_divide_247 (lv_at hl 0 rfl) ?_
        refine lv_iconst (v := nI 1) hx hb dX6_divide_249 (by decide) ?_
        refine r_iaddN C dX6_divide_250 ?_
        refine lv_iload_n hx hb dX6_divide_251 rfl (lv_at hl 2 rfl) ?_
        refine r_icmp_geN (tgt := 283) C (by omega) (by omega) dX6_divide_252 (by decide) (fun hd => ?_) (fun hd => ?_)
        · refine lv_lconst (v := 0) hx hb dX6_divide_283 (by decide) ?_
          refine lv_lstore (lv' := [(6, .long 0), (5, .int (nI i)), (4, .int (nI sh)), (3, .int (nI n)), (0, .ref g), (1, .int (nI by9)), (2, .int (nI to))]) hx hb dX6_divide_284 hl (by decide) rfl (fun ls hl => ?_)
          refine hhi 0 H locs ls (fun q => ?_) hM hS (lv_sub hl [0, 1, 2, 3, 4, 5, 6] rfl)
          have : i + 1 = n := by omega
          rw [this, hun, dg_0, Nat.zero_mul, Nat.zero_mod]
          split <;> rfl
        · refine lv_iload hx hb dX6_divide_255 (lv_at hl 1 rfl) ?_
          refine r_if_leN (tgt := 283) C (by omega) dX6_divide_257 (by decide) (fun he => ?_) (fun he => ?_)
          · refine lv_lconst (v := 0) hx hb dX6_divide_283 (by decide) ?_
            refine lv_lstore (lv' := [(6, .long 0), (5, .int (nI i)), (4, .int (nI sh)), (3, .int (nI n)), (0, .ref g), (1, .int (nI by9)), (2, .int (nI to))]) hx hb dX6_divide_284 hl (by decide) rfl (fun ls hl => ?_)
            refine hhi 0 H locs ls (fun q => ?_) hM hS (lv_sub hl [0, 1, 2, 3, 4, 5, 6] rfl)
            rw [if_neg (by omega)]
            rfl
          · have zu := nu (i + 1) (by omega)
            refine lv_aload_n hx hb dX6_divide_260 rfl (lv_at hl 3 rfl) ?_
            refine x_get (v := .ref (g + 5)) hx hb hts in_X6_divide_X6 hown hK hM (hob1) rfl 8 (by decide) (hts (.fieldLink RX6 27 "LimbCurvesModel" "u" "[I") (by decide +kernel)) (fun _ h9 => h9) rfl dX6_divide_261 ?_
            refine lv_iload hx hb dX6_divide_264 (lv_at hl 0 rfl) ?_
            refine lv_iconst (v := nI 1) hx hb dX6_divide_266 (by decide) ?_
            refine r_iaddN C dX6_divide_267 ?_
            refine r_iald C hM (hu1) rfl (by omega) (by omega) dX6_divide_268 ?_
            refine lv_i2l (v := (u (i + 1)).toInt64) hx hb dX6_divide_269 rfl ?_
            refine r_topl C (lN (dg (u (i + 1)))) (i2l_dg zu) ?_
            refine lv_bipush (v := nI 31) hx hb dX6_divide_270 (by decide) ?_
            refine lv_iload hx hb dX6_divide_272 (lv_at hl 1 rfl) ?_
            refine r_isubN C (by omega) dX6_divide_274 ?_
            refine lv_lshl (v := (lN (dg (u (i + 1)))) <<< ((nI (31 - sh)).toInt64 &&& 63)) hx hb dX6_divide_275 rfl ?_
            refine lv_ldc2 (v := 2147483647) hx hb hown (hts (.constantLong RX6 75 (2147483647)) (by decide +kernel)) dX6_divide_276 ?_
            refine lv_land hx hb dX6_divide_279 ?_
            refine lv_goto (tgt := 284) hx hb dX6_divide_280 (by decide) ?_
            refine lv_topl (fun h9 eh9 => ?_)
            refine lv_lstore (lv' := [(6, .long h9), (5, .int (nI i)), (4, .int (nI sh)), (3, .int (nI n)), (0, .ref g), (1, .int (nI by9)), (2, .int (nI to))]) hx hb dX6_divide_284 hl (by decide) rfl (fun ls hl => ?_)
            refine hhi h9 H locs ls (fun q => ?_) hM hS (lv_sub hl [0, 1, 2, 3, 4, 5, 6] rfl)
            rw [if_pos (by omega), eh9]
            exact one_val (dg_lt _) (by omega)
  -- the quotient's digits
  have lp6 : ∀ (sh : Nat) (w : Nat → Int32) (hsh : sh < 31) (nw : nn w n) (hno : 1073741824 ≤ dg (w (n - 1))) (hVw : V w n = N by9 * 2 ^ sh) (F : Nat → Int32) (hF : F = E0) (k : Nat) (u q : Nat → Int32) (M1 : xM) (H : Heap) (locs : List Loc) (ls : Array Slot), k ≤ us - n + 1 → nn u 24 → nn q 24 → (∀ j, j < k → q j = 0) → (∀ j, k + n ≤ j → j < 24 → u j = 0) → Vw u k n < V w n → X * 2 ^ sh = V q 24 * V w n + (V u k + BB ^ k * Vw u k n) → DV kA M0 M1 g B (nI us) u w q F → xW D vwCl N0 M1 H → va_S (xA N0) s.heap H locs → lv_has ls 8 [(5, .int (nI k - 1)), (4, .int (nI sh)), (3, .int (nI n)), (0, .ref g), (1, .int (nI by9)), (2, .int (nI to))] → W p l e (xR 2) s m A0 below meth c H locs 0 0 Qp (F0 m 211 ls []) := by
    intro sh w hsh nw hno hVw F hF k
    have h2p := Nat.two_pow_pos sh
    induction k with
    | zero =>
      intro u q M1 H locs ls hk nu nq hq hzu hr hI hdv hM hS hl
      refine lv_iload hx hb dX6_divide_211 (lv_at hl 0 rfl) ?_
      refine lv_if_lt (tgt := 237) hx hb dX6_divide_213 (by decide) (fun hc => ?_) (fun hc => ?_)
      · have hI2 : X * 2 ^ sh = V q 24 * (N by9 * 2 ^ sh) + V u n := by
          rw [V_0, Nat.pow_zero, Nat.one_mul, Nat.zero_add, hVw] at hI
          exact hI
        have hr2 : V u n < N by9 * 2 ^ sh := by rw [← hVw]; exact hr
        have hdq : V q 24 = X / N by9 := by
          have h1 : X * 2 ^ sh / (N by9 * 2 ^ sh) = V q 24 := by
            rw [hI2, Nat.mul_comm (V q 24), Nat.mul_add_div (Nat.mul_pos hpos h2p), Nat.div_eq_of_lt hr2, Nat.add_zero]
          rw [← h1, Nat.mul_div_mul_right _ _ h2p]
        have hrm : V u n = X % N by9 * 2 ^ sh := by
          have h1 : X * 2 ^ sh % (N by9 * 2 ^ sh) = V u n := by
            rw [hI2, Nat.mul_comm (V q 24), Nat.mul_add_mod, Nat.mod_eq_of_lt hr2]
          rw [← h1, Nat.mul_mod_mul_right]
        have hun : u n = 0 := hzu n (by omega) (by omega)
        rw [hF] at hdv
        refine lv_iconst (v := nI 0) hx hb dX6_divide_237 (by decide) ?_
        refine lv_istore (lv' := [(5, .int (nI 0)), (4, .int (nI sh)), (3, .int (nI n)), (0, .ref g), (1, .int (nI by9)), (2, .int (nI to))]) hx hb dX6_divide_238 hl (by decide) rfl (fun ls hl => ?_)
        exact lp7 sh u w q hsh nu nq hun hrm hdq 10 0 E0 M1 H locs ls rfl hdv (by rw [if_pos hn0]; exact Lp.ini E0 to) hM hS (lv_sub hl [0, 1, 2, 3, 4, 5] rfl)
      · exact absurd (by decide) hc
    | succ k ih =>
      intro u q M1 H locs ls hk nu nq hq hzu hr hI hdv hM hS hl
      have hl : lv_has ls 8 [(5, .int (nI k)), (4, .int (nI sh)), (3, .int (nI n)), (0, .ref g), (1, .int (nI by9)), (2, .int (nI to))] := by rw [nI_pred] at hl; exact hl
      have hob1 := hdv.1
      have hdk := dg_lt (u k)
      have hhd : Vw u k (n + 1) = dg (u k) + BB * Vw u (k + 1) n := Vw_head u k n
      have hlt : Vw u k (n + 1) < BB * V w n := by
        rw [hhd]
        have h1 : BB * (Vw u (k + 1) n + 1) ≤ BB * V w n := Nat.mul_le_mul_left BB hr
        rw [Nat.mul_add] at h1
        omega
      have hV0 : 0 < V w n := by omega
      refine lv_iload hx hb dX6_divide_211 (lv_at hl 0 rfl) ?_
      refine r_if_ltN (tgt := 237) C (by omega) dX6_divide_213 (by decide) (fun hc => ?_) (fun hc => ?_)
      · exact hc.elim
      · refine lv_aload_n hx hb dX6_divide_216 rfl (lv_at hl 3 rfl) ?_
        refine x_get (v := .ref (g + 7)) hx hb hts in_X6_divide_X6 hown hK hM (hob1) rfl 10 (by decide) (hts (.fieldLink RX6 33 "LimbCurvesModel" "q" "[I") (by decide +kernel)) (fun _ h9 => h9) rfl dX6_divide_217 ?_
        refine lv_iload hx hb dX6_divide_220 (lv_at hl 0 rfl) ?_
        refine lv_aload_n hx hb dX6_divide_222 rfl (lv_at hl 3 rfl) ?_
        refine lv_iload hx hb dX6_divide_223 (lv_at hl 0 rfl) ?_
        refine lv_iload_n hx hb dX6_divide_225 rfl (lv_at hl 2 rfl) ?_
        refine r_Vl (As := [.int (nI k), .int (nI n)]) (rest := [.int (nI k), .ref (g + 7)]) C hM hS (c6_digit l D kA N0 M1 g k n B (nI us) u w hob1 hdv.2.2.1 hdv.2.2.2.1 nu nw hn0 hn10 (by omega) hno hlt) (hob1) rfl gX6_divide_X6_digit rfl rfl rfl ⟨rfl, by decide +kernel, by decide +kernel, (by decide +kernel : (parseMethodDescriptor yX6_digit.desc).map (fun d => d.parameters.length) = some 2)⟩ ⟨Nat.le_of_ble_eq_true rfl, Nat.le_of_ble_eq_true rfl⟩ hl.1 rfl (Nat.le_of_ble_eq_true rfl) dX6_divide_226 ⟨Nat.le_of_ble_eq_true rfl, Nat.le_of_ble_eq_true rfl⟩ (fun r9 M2 H locs hp hM hS => ?_)
        obtain ⟨er, u', eM2, nu', hu'1, hu'2, hu'3⟩ := hp
        rw [er]
        have hdB : Vw u k (n + 1) / V w n < BB := (Nat.div_lt_iff_lt_mul hV0).mpr hlt
        obtain ⟨dd, edd⟩ : ∃ x, x = Vw u k (n + 1) / V w n := ⟨_, rfl⟩
        rw [← edd] at hdB ⊢
        have hdm := Nat.div_add_mod (Vw u k (n + 1)) (V w n)
        rw [← edd, Nat.mul_comm] at hdm
        have hdv2 : DV kA M0 M2 g B (nI us) u' w q F := by rw [eM2]; exact hdv.su u'
        have hq2 := hdv2.2.2.2.2.1
        refine lv_l2i (v := (lN dd).toInt32) hx hb dX6_divide_229 rfl ?_
        refine r_topi C (nI dd) (lN_i dd) ?_
        refine r_iast C hM hS (hq2) rfl (by omega) (by omega) dX6_divide_230 (fun H locs hM hS => ?_)
        refine lv_iinc (v := nI k - 1) (lv' := [(5, .int (nI k - 1)), (4, .int (nI sh)), (3, .int (nI n)), (0, .ref g), (1, .int (nI by9)), (2, .int (nI to))]) hx hb dX6_divide_231 hl (k := 0) rfl (r_decI _) (by decide) rfl (fun ls hl => ?_)
        refine lv_goto (tgt := 211) hx hb dX6_divide_234 (by decide) ?_
        refine ih u' (upd q k (nI dd)) _ H locs ls (by omega) nu' (nn_upd nq (by rw [t_nI (by omega)]; omega)) (fun j hj => ?_) (fun j h1 h2 => ?_) ?_ ?_ (hdv2.sq _) hM hS ?_
        · rw [pk_un (by omega)]
          exact hq j (by omega)
        · by_cases q1 : j = k + n
          · rw [q1]; exact hu'2
          · rw [hu'1 j (by omega)]
            exact hzu j (by omega) h2
        · rw [hu'3]
          exact Nat.mod_lt _ hV0
        · have e1 : V (upd q k (nI dd)) 24 = V q 24 + dd * BB ^ k := by
            have h1 : V (upd q k (nI dd)) 24 = V q 24 + dg (nI dd) * BB ^ k := by
              have hs1 := V_split q (k + 1) (24 - (k + 1))
              have hs2 := V_split (upd q k (nI dd)) (k + 1) (24 - (k + 1))
              rw [show k + 1 + (24 - (k + 1)) = 24 by omega] at hs1 hs2
              rw [hs1, hs2, V_upd, V_s, hq k (by omega), dg_0, Vw_upd_out (by omega)]
              omega
            rw [h1, dg_nI (by omega)]
          have e2 : V u' k = V u k := V_congr (fun j hj => hu'1 j (by omega))
          rw [e1, e2, hu'3]
          refine qd_st (r0 := Vw u k (n + 1)) ?_ hdm.symm
          have e5 : BB ^ (k + 1) = BB ^ k * BB := Nat.pow_succ _ _
          rw [hI, hhd, V_s u k, e5, Nat.mul_add, Nat.mul_comm (BB ^ k) (dg (u k)), Nat.mul_assoc (BB ^ k) BB]
          omega
        · exact (lv_sub hl [0, 1, 2, 3, 4, 5] rfl)
  -- u is shifted
  have lp5 : ∀ (sh : Nat) (w : Nat → Int32) (hsh : sh < 31) (nw : nn w n) (hno : 1073741824 ≤ dg (w (n - 1))) (hVw : V w n = N by9 * 2 ^ sh) (q : Nat → Int32) (hq : ∀ j, j < 24 → q j = 0) (k : Nat) (u : Nat → Int32) (M1 : xM) (H : Heap) (locs : List Loc) (ls : Array Slot), k ≤ us + 1 → (∀ j, j < k → u j = f j) → (∀ j, k ≤ j → j ≤ us → u j = nI (shl f 0 sh j)) → (∀ j, us < j → j < 24 → u j = 0) → DV kA M0 M1 g B (nI us) u w q E0 → xW D vwCl N0 M1 H → va_S (xA N0) s.heap H locs → lv_has ls 8 [(5, .int (nI k - 1)), (4, .int (nI sh)), (3, .int (nI n)), (0, .ref g), (1, .int (nI by9)), (2, .int (nI to))] → W p l e (xR 2) s m A0 below meth c H locs 0 0 Qp (F0 m 135 ls []) := by
    intro sh w hsh nw hno hVw q hq k
    have hus9 : us < 24 := by omega
    induction k with
    | zero =>
      intro u M1 H locs ls hk h1 h2 h3 hdv hM hS hl
      have hob1 := hdv.1
      refine lv_iload hx hb dX6_divide_135 (lv_at hl 0 rfl) ?_
      refine lv_if_lt (tgt := 203) hx hb dX6_divide_137 (by decide) (fun hc => ?_) (fun hc => ?_)
      · have hVu : V u (us + 1) = X * 2 ^ sh := by
          rw [V_sh hsh (fun j hj => h2 j (Nat.zero_le _) hj) (hz us (Nat.le_refl _) hus9), hX]
        have nu : nn u 24 := fun j hj => by
          by_cases q1 : j ≤ us
          · rw [h2 j (Nat.zero_le _) q1]; exact shl_nn
          · rw [h3 j (by omega) hj]; decide
        have hsp := V_split u (us - n + 1) n
        rw [show us - n + 1 + n = us + 1 by omega, hVu] at hsp
        have hq0 : V q 24 = 0 := V_zero hq
        have hr : Vw u (us - n + 1) n < V w n := by
          have htopu : dg (u us) < 2 ^ sh := by
            obtain ⟨k9, ek9⟩ : ∃ k9, us = k9 + 1 := ⟨us - 1, by omega⟩
            rw [h2 us (Nat.zero_le _) (Nat.le_refl _), dg_nI (shl_lt f 0 sh us), ek9, shl_s, ← ek9, hz us (Nat.le_refl _) hus9, dg_0, Nat.zero_mul, Nat.zero_add]
            have h5 : dg (f k9) / 2 ^ (31 - sh) < 2 ^ sh := Nat.div_lt_of_lt_mul (by rw [← Nat.pow_add, show 31 - sh + sh = 31 by omega]; exact dg_lt _)
            exact Nat.lt_of_le_of_lt (Nat.mod_le _ _) h5
          have h6 : Vw u (us - n + 1) n < (dg (u us) + 1) * BB ^ (n - 1) := by
            have h7 := Vw_s u (us - n + 1) (n - 1)
            rw [show n - 1 + 1 = n by omega, show us - n + 1 + (n - 1) = us by omega] at h7
            rw [h7, Nat.add_mul]
            have := Vw_lt u (us - n + 1) (n - 1)
            omega
          have h8 : (dg (u us) + 1) * BB ^ (n - 1) ≤ dg (w (n - 1)) * BB ^ (n - 1) := by
            refine Nat.mul_le_mul_right _ ?_
            have : 2 ^ sh ≤ 2 ^ 30 := Nat.pow_le_pow_right (by decide) (by omega)
            omega
          have h9 : dg (w (n - 1)) * BB ^ (n - 1) ≤ V w n := by
            rw [show n = (n - 1) + 1 by omega, V_s, Nat.add_sub_cancel]
            omega
          omega
        refine lv_aload_n hx hb dX6_divide_203 rfl (lv_at hl 3 rfl) ?_
        refine x_get (v := .int (nI us)) hx hb hts in_X6_divide_X6 hown hK hM (hob1) rfl 11 (by decide) (hts (.fieldLink RX6 79 "LimbCurvesModel" "uSize" "I") (by decide +kernel)) (fun _ h9 => h9) rfl dX6_divide_204 ?_
        refine lv_iload_n hx hb dX6_divide_207 rfl (lv_at hl 2 rfl) ?_
        refine r_isubN C (by omega) dX6_divide_208 ?_
        refine lv_istore (lv' := [(5, .int (nI (us - n))), (4, .int (nI sh)), (3, .int (nI n)), (0, .ref g), (1, .int (nI by9)), (2, .int (nI to))]) hx hb dX6_divide_209 hl (by decide) rfl (fun ls hl => ?_)
        refine lp6 sh w hsh nw hno hVw E0 rfl (us - n + 1) u q M1 H locs ls (Nat.le_refl _) nu (fun j hj => by rw [hq j hj]; decide) (fun j hj => hq j (by omega)) (fun j h4 h5 => h3 j (by omega) h5) hr (by rw [hq0, Nat.zero_mul, Nat.zero_add]; exact hsp) hdv hM hS ?_
        rw [nI_pred]
        exact (lv_sub hl [0, 1, 2, 3, 4, 5] rfl)
      · exact absurd (by decide) hc
    | succ k ih =>
      intro u M1 H locs ls hk h1 h2 h3 hdv hM hS hl
      have hl : lv_has ls 8 [(5, .int (nI k)), (4, .int (nI sh)), (3, .int (nI n)), (0, .ref g), (1, .int (nI by9)), (2, .int (nI to))] := by rw [nI_pred] at hl; exact hl
      have hob1 := hdv.1
      have hu1 := hdv.2.2.1
      have hlo : ∀ (H : Heap) (locs : List Loc) (ls : Array Slot), xW D vwCl N0 M1 H → va_S (xA N0) s.heap H locs → lv_has ls 8 [(6, .int (nI (lwv f sh k))), (5, .int (nI k)), (4, .int (nI sh)), (3, .int (nI n)), (0, .ref g), (1, .int (nI by9)), (2, .int (nI to))] → W p l e (xR 2) s m A0 below meth c H locs 0 0 Qp (F0 m 171 ls []) := by
        intro H locs ls hM hS hl
        have zu := nf k (by omega)
        refine lv_aload_n hx hb dX6_divide_171 rfl (lv_at hl 4 rfl) ?_
        refine x_get (v := .ref (g + 5)) hx hb hts in_X6_divide_X6 hown hK hM (hob1) rfl 8 (by decide) (hts (.fieldLink RX6 27 "LimbCurvesModel" "u" "[I") (by decide +kernel)) (fun _ h9 => h9) rfl dX6_divide_172 ?_
        refine lv_iload hx hb dX6_divide_175 (lv_at hl 1 rfl) ?_
        refine lv_aload_n hx hb dX6_divide_177 rfl (lv_at hl 4 rfl) ?_
        refine x_get (v := .ref (g + 5)) hx hb hts in_X6_divide_X6 hown hK hM (hob1) rfl 8 (by decide) (hts (.fieldLink RX6 27 "LimbCurvesModel" "u" "[I") (by decide +kernel)) (fun _ h9 => h9) rfl dX6_divide_178 ?_
        refine lv_iload hx hb dX6_divide_181 (lv_at hl 1 rfl) ?_
        refine r_iald C hM (hu1) rfl (by omega) (by omega) dX6_divide_183 ?_
        rw [h1 k (by omega)]
        refine lv_i2l (v := (f k).toInt64) hx hb dX6_divide_184 rfl ?_
        refine r_topl C (lN (dg (f k))) (i2l_dg zu) ?_
        refine lv_iload hx hb dX6_divide_185 (lv_at hl 2 rfl) ?_
        refine lv_lshl (v := (lN (dg (f k))) <<< ((nI sh).toInt64 &&& 63)) hx hb dX6_divide_187 rfl ?_
        refine lv_ldc2 (v := 2147483647) hx hb hown (hts (.constantLong RX6 75 (2147483647)) (by decide +kernel)) dX6_divide_188 ?_
        refine lv_land hx hb dX6_divide_191 ?_
        refine lv_l2i (v := (((lN (dg (f k))) <<< ((nI sh).toInt64 &&& 63)) &&& 2147483647).toInt32) hx hb dX6_divide_192 rfl ?_
        refine r_topi C (nI (dg (f k) * 2 ^ sh % BB)) (one_val (dg_lt _) hsh) ?_
        refine lv_iload hx hb dX6_divide_193 (lv_at hl 0 rfl) ?_
        refine lv_ior hx hb dX6_divide_195 ?_
        refine r_topi C (nI (shl f 0 sh k)) (lwv_or hsh) ?_
        refine r_iast C hM hS (hu1) rfl (by omega) (by omega) dX6_divide_196 (fun H locs hM hS => ?_)
        refine lv_iinc (v := nI k - 1) (lv' := [(5, .int (nI k - 1)), (6, .int (nI (lwv f sh k))), (4, .int (nI sh)), (3, .int (nI n)), (0, .ref g), (1, .int (nI by9)), (2, .int (nI to))]) hx hb dX6_divide_197 hl (k := 1) rfl (r_decI _) (by decide) rfl (fun ls hl => ?_)
        refine lv_goto (tgt := 135) hx hb dX6_divide_200 (by decide) ?_
        refine ih _ _ H locs ls (by omega) (fun j hj => ?_) (fun j h4 h5 => ?_) (fun j h4 h5 => ?_) (hdv.su _) hM hS (lv_sub hl [0, 2, 3, 4, 5, 6] rfl)
        · rw [pk_un (by omega)]; exact h1 j (by omega)
        · by_cases q1 : j = k
          · rw [q1, pk_us]
          · rw [pk_un q1]; exact h2 j (by omega) h5
        · rw [pk_un (by omega)]; exact h3 j h4 h5
      refine lv_iload hx hb dX6_divide_135 (lv_at hl 0 rfl) ?_
      refine r_if_ltN (tgt := 203) C (by omega) dX6_divide_137 (by decide) (fun hc => ?_) (fun hc => ?_)
      · exact hc.elim
      · refine lv_iload hx hb dX6_divide_140 (lv_at hl 1 rfl) ?_
        refine r_if_eqN (tgt := 150) C (by omega) dX6_divide_142 (by decide) (fun hd => ?_) (fun hd => ?_)
        · refine lv_iconst (v := nI 0) hx hb dX6_divide_150 (by decide) ?_
          refine lv_goto (tgt := 169) hx hb dX6_divide_151 (by decide) ?_
          refine lv_istore (lv' := [(6, .int (nI 0)), (5, .int (nI k)), (4, .int (nI sh)), (3, .int (nI n)), (0, .ref g), (1, .int (nI by9)), (2, .int (nI to))]) hx hb dX6_divide_169 hl (by decide) rfl (fun ls hl => ?_)
          refine hlo H locs ls hM hS ?_
          rw [lwv_0 (Or.inl hd)]
          exact (lv_sub hl [0, 1, 2, 3, 4, 5, 6] rfl)
        · refine lv_iload hx hb dX6_divide_145 (lv_at hl 0 rfl) ?_
          refine r_if_neN (tgt := 154) C (by omega) dX6_divide_147 (by decide) (fun he => ?_) (fun he => ?_)
          · have zu := nf (k - 1) (by omega)
            have lu := dg_lt (f (k - 1))
            refine lv_aload_n hx hb dX6_divide_154 rfl (lv_at hl 3 rfl) ?_
            refine x_get (v := .ref (g + 5)) hx hb hts in_X6_divide_X6 hown hK hM (hob1) rfl 8 (by decide) (hts (.fieldLink RX6 27 "LimbCurvesModel" "u" "[I") (by decide +kernel)) (fun _ h9 => h9) rfl dX6_divide_155 ?_
            refine lv_iload hx hb dX6_divide_158 (lv_at hl 0 rfl) ?_
            refine lv_iconst (v := nI 1) hx hb dX6_divide_160 (by decide) ?_
            refine r_isubN C (by omega) dX6_divide_161 ?_
            refine r_iald C hM (hu1) rfl (by omega) (by omega) dX6_divide_162 ?_
            rw [h1 (k - 1) (by omega), nI_dg zu]
            refine lv_bipush (v := nI 31) hx hb dX6_divide_163 (by decide) ?_
            refine lv_iload hx hb dX6_divide_165 (lv_at hl 1 rfl) ?_
            refine r_isubN C (by omega) dX6_divide_167 ?_
            refine lv_ishr hx hb dX6_divide_168 ?_
            refine r_topi C (nI (lwv f sh k)) (by rw [pk_shrN (by omega) _ (31 - sh) (s_sm (31 - sh) (by omega))]; unfold lwv; rw [if_neg (by omega)]) ?_
            refine lv_istore (lv' := [(6, .int (nI (lwv f sh k))), (5, .int (nI k)), (4, .int (nI sh)), (3, .int (nI n)), (0, .ref g), (1, .int (nI by9)), (2, .int (nI to))]) hx hb dX6_divide_169 hl (by decide) rfl (fun ls hl => ?_)
            exact hlo H locs ls hM hS (lv_sub hl [0, 1, 2, 3, 4, 5, 6] rfl)
          · refine lv_iconst (v := nI 0) hx hb dX6_divide_150 (by decide) ?_
            refine lv_goto (tgt := 169) hx hb dX6_divide_151 (by decide) ?_
            refine lv_istore (lv' := [(6, .int (nI 0)), (5, .int (nI k)), (4, .int (nI sh)), (3, .int (nI n)), (0, .ref g), (1, .int (nI by9)), (2, .int (nI to))]) hx hb dX6_divide_169 hl (by decide) rfl (fun ls hl => ?_)
            refine hlo H locs ls hM hS ?_
            rw [lwv_0 (Or.inr (by omega))]
            exact (lv_sub hl [0, 1, 2, 3, 4, 5, 6] rfl)
  -- q is cleared
  have lp4 : ∀ (sh : Nat) (w : Nat → Int32) (hsh : sh < 31) (nw : nn w n) (hno : 1073741824 ≤ dg (w (n - 1))) (hVw : V w n = N by9 * 2 ^ sh) (k i : Nat) (q : Nat → Int32) (M1 : xM) (H : Heap) (locs : List Loc) (ls : Array Slot), i + k = 24 → (∀ j, j < i → q j = 0) → DV kA M0 M1 g B (nI us) f w q E0 → xW D vwCl N0 M1 H → va_S (xA N0) s.heap H locs → lv_has ls 8 [(5, .int (nI i)), (4, .int (nI sh)), (3, .int (nI n)), (0, .ref g), (1, .int (nI by9)), (2, .int (nI to))] → W p l e (xR 2) s m A0 below meth c H locs 0 0 Qp (F0 m 108 ls []) := by
    intro sh w hsh nw hno hVw k
    induction k with
    | zero =>
      intro i q M1 H locs ls hik hq hdv hM hS hl
      have hob1 := hdv.1
      refine lv_iload hx hb dX6_divide_108 (lv_at hl 0 rfl) ?_
      refine lv_bipush (v := nI 24) hx hb dX6_divide_110 (by decide) ?_
      refine r_icmp_geN (tgt := 129) C (by omega) (by omega) dX6_divide_112 (by decide) (fun hc => ?_) (fun hc => ?_)
      · refine lv_aload_n hx hb dX6_divide_129 rfl (lv_at hl 3 rfl) ?_
        refine x_get (v := .int (nI us)) hx hb hts in_X6_divide_X6 hown hK hM (hob1) rfl 11 (by decide) (hts (.fieldLink RX6 79 "LimbCurvesModel" "uSize" "I") (by decide +kernel)) (fun _ h9 => h9) rfl dX6_divide_130 ?_
        refine lv_istore (lv' := [(5, .int (nI us)), (4, .int (nI sh)), (3, .int (nI n)), (0, .ref g), (1, .int (nI by9)), (2, .int (nI to))]) hx hb dX6_divide_133 hl (by decide) rfl (fun ls hl => ?_)
        refine lp5 sh w hsh nw hno hVw q (fun j hj => hq j (by omega)) (us + 1) f M1 H locs ls (Nat.le_refl _) (fun _ _ => rfl) (fun j h4 h5 => by omega) (fun j h4 h5 => hz j (by omega) h5) hdv hM hS ?_
        rw [nI_pred]
        exact (lv_sub hl [0, 1, 2, 3, 4, 5] rfl)
      · omega
    | succ k ih =>
      intro i q M1 H locs ls hik hq hdv hM hS hl
      have hob1 := hdv.1
      have hq1 := hdv.2.2.2.2.1
      refine lv_iload hx hb dX6_divide_108 (lv_at hl 0 rfl) ?_
      refine lv_bipush (v := nI 24) hx hb dX6_divide_110 (by decide) ?_
      refine r_icmp_geN (tgt := 129) C (by omega) (by omega) dX6_divide_112 (by decide) (fun hc => ?_) (fun hc => ?_)
      · omega
      · refine lv_aload_n hx hb dX6_divide_115 rfl (lv_at hl 3 rfl) ?_
        refine x_get (v := .ref (g + 7)) hx hb hts in_X6_divide_X6 hown hK hM (hob1) rfl 10 (by decide) (hts (.fieldLink RX6 33 "LimbCurvesModel" "q" "[I") (by decide +kernel)) (fun _ h9 => h9) rfl dX6_divide_116 ?_
        refine lv_iload hx hb dX6_divide_119 (lv_at hl 0 rfl) ?_
        refine lv_iconst (v := nI 0) hx hb dX6_divide_121 (by decide) ?_
        refine r_iast C hM hS (hq1) rfl (by omega) (by omega) dX6_divide_122 (fun H locs hM hS => ?_)
        refine lv_iinc (v := nI (i + 1)) (lv' := [(5, .int (nI (i + 1))), (4, .int (nI sh)), (3, .int (nI n)), (0, .ref g), (1, .int (nI by9)), (2, .int (nI to))]) hx hb dX6_divide_123 hl (k := 0) rfl (r_inc _) (by decide) rfl (fun ls hl => ?_)
        refine lv_goto (tgt := 108) hx hb dX6_divide_126 (by decide) ?_
        refine ih (i + 1) _ _ H locs ls (by omega) (fun j hj => ?_) (hdv.sq _) hM hS (lv_sub hl [0, 1, 2, 3, 4, 5] rfl)
        by_cases q1 : j = i
        · rw [q1, pk_us]; rfl
        · rw [pk_un q1]; exact hq j (by omega)
  -- v is shifted
  have lp3 : ∀ (sh : Nat) (hsh : sh < 31) (hs30 : 1073741824 ≤ dg (Ef (n - 1)) * 2 ^ sh) (hs31 : dg (Ef (n - 1)) * 2 ^ sh < 2147483648) (k : Nat) (w : Nat → Int32) (M1 : xM) (H : Heap) (locs : List Loc) (ls : Array Slot), k ≤ n → (∀ j, k ≤ j → j < n → w j = nI (shl Ef 0 sh j)) → DV kA M0 M1 g B (nI us) f w q0 E0 → xW D vwCl N0 M1 H → va_S (xA N0) s.heap H locs → lv_has ls 8 [(5, .int (nI k - 1)), (4, .int (nI sh)), (3, .int (nI n)), (0, .ref g), (1, .int (nI by9)), (2, .int (nI to))] → W p l e (xR 2) s m A0 below meth c H locs 0 0 Qp (F0 m 37 ls []) := by
    intro sh hsh hs30 hs31 k
    induction k with
    | zero =>
      intro w M1 H locs ls hk hw hdv hM hS hl
      refine lv_iload hx hb dX6_divide_37 (lv_at hl 0 rfl) ?_
      refine lv_if_lt (tgt := 105) hx hb dX6_divide_39 (by decide) (fun hc => ?_) (fun hc => ?_)
      · have nw : nn w n := fun j hj => by rw [hw j (Nat.zero_le _) hj]; exact shl_nn
        have hVw : V w n = N by9 * 2 ^ sh := by
          obtain ⟨w1, ew1⟩ : ∃ w1 : Nat → Int32, w1 = fun j => nI (shl (fun j => if j < n then Ef j else 0) 0 sh j) := ⟨_, rfl⟩
          have hg0 : (fun j => if j < n then Ef j else 0) n = 0 := by simp
          have h5 := V_sh (f := w1) (g := fun j => if j < n then Ef j else 0) (sh := sh) (n := n) hsh (fun j hj => by rw [ew1]) hg0
          have h6 : V (fun j => if j < n then Ef j else 0) n = N by9 := by
            rw [← hVn]
            exact V_congr (fun j hj => by simp [hj])
          rw [h6] at h5
          have h7 : V w n = V w1 n := V_congr (fun j hj => by
            rw [hw j (Nat.zero_le _) hj, ew1]
            cases j with
            | zero => simp only [shl_0 _ hsh, hj, if_true]
            | succ j => simp only [shl_s, hj, if_true, show j < n by omega])
          have h8 : dg (w1 n) = 0 := by
            obtain ⟨k9, ek9⟩ : ∃ k9, n = k9 + 1 := ⟨n - 1, by omega⟩
            rw [ew1]
            show dg (nI (shl _ 0 sh n)) = 0
            rw [dg_nI (shl_lt _ 0 sh n), ek9, shl_s]
            have e1 : (fun j => if j < k9 + 1 then Ef j else 0) (k9 + 1) = 0 := by simp
            have e2 : (fun j => if j < k9 + 1 then Ef j else 0) k9 = Ef k9 := by simp
            rw [if_neg (by omega), if_pos (by omega), dg_0, Nat.zero_mul, Nat.zero_add]
            have e3 : dg (Ef k9) < 2 ^ (31 - sh) := by
              rw [show n - 1 = k9 by omega] at hs31
              have e4 : 2 ^ (31 - sh) * 2 ^ sh = 2147483648 := by rw [← Nat.pow_add, show 31 - sh + sh = 31 by omega]
              rw [← e4] at hs31
              exact Nat.lt_of_mul_lt_mul_right hs31
            rw [Nat.div_eq_of_lt e3, Nat.zero_mod]
          rw [V_s, h8, Nat.zero_mul, Nat.add_zero] at h5
          rw [h7]
          exact h5
        have hno : 1073741824 ≤ dg (w (n - 1)) := by
          rcases Nat.lt_or_ge (dg (w (n - 1))) 1073741824 with q1 | q1
          · exfalso
            have h5 : V w n < 1073741824 * BB ^ (n - 1) := by
              rw [show n = (n - 1) + 1 by omega, V_s, Nat.add_sub_cancel]
              have h6 := V_lt w (n - 1)
              have h7 : (dg (w (n - 1)) + 1) * BB ^ (n - 1) ≤ 1073741824 * BB ^ (n - 1) := Nat.mul_le_mul_right _ q1
              rw [Nat.add_mul] at h7
              omega
            have h8 : dg (Ef (n - 1)) * BB ^ (n - 1) ≤ N by9 := by
              rw [← hVn, show n = (n - 1) + 1 by omega, V_s, Nat.add_sub_cancel]
              omega
            have h9 : 1073741824 * BB ^ (n - 1) ≤ N by9 * 2 ^ sh := by
              have h10 := Nat.mul_le_mul_right (BB ^ (n - 1)) hs30
              have h11 := Nat.mul_le_mul_right (2 ^ sh) h8
              rw [Nat.mul_assoc, Nat.mul_comm (BB ^ (n - 1)), ← Nat.mul_assoc] at h11
              omega
            omega
          · exact q1
        refine lv_iconst (v := nI 0) hx hb dX6_divide_105 (by decide) ?_
        refine lv_istore (lv' := [(5, .int (nI 0)), (4, .int (nI sh)), (3, .int (nI n)), (0, .ref g), (1, .int (nI by9)), (2, .int (nI to))]) hx hb dX6_divide_106 hl (by decide) rfl (fun ls hl => ?_)
        exact lp4 sh w hsh nw hno hVw 24 0 q0 M1 H locs ls rfl (fun j hj => by omega) hdv hM hS (lv_sub hl [0, 1, 2, 3, 4, 5] rfl)
      · exact absurd (by decide) hc
    | succ k ih =>
      intro w M1 H locs ls hk hw hdv hM hS hl
      have hl : lv_has ls 8 [(5, .int (nI k)), (4, .int (nI sh)), (3, .int (nI n)), (0, .ref g), (1, .int (nI by9)), (2, .int (nI to))] := by rw [nI_pred] at hl; exact hl
      have hob1 := hdv.1
      have hF1 := hdv.2.1
      have hv1 := hdv.2.2.2.1
      have hlo : ∀ (H : Heap) (locs : List Loc) (ls : Array Slot), xW D vwCl N0 M1 H → va_S (xA N0) s.heap H locs → lv_has ls 8 [(6, .int (nI (lwv Ef sh k))), (5, .int (nI k)), (4, .int (nI sh)), (3, .int (nI n)), (0, .ref g), (1, .int (nI by9)), (2, .int (nI to))] → W p l e (xR 2) s m A0 below meth c H locs 0 0 Qp (F0 m 73 ls []) := by
        intro H locs ls hM hS hl
        have zu := nE k (by omega)
        refine lv_aload_n hx hb dX6_divide_73 rfl (lv_at hl 4 rfl) ?_
        refine x_get (v := .ref (g + 6)) hx hb hts in_X6_divide_X6 hown hK hM (hob1) rfl 9 (by decide) (hts (.fieldLink RX6 30 "LimbCurvesModel" "v" "[I") (by decide +kernel)) (fun _ h9 => h9) rfl dX6_divide_74 ?_
        refine lv_iload hx hb dX6_divide_77 (lv_at hl 1 rfl) ?_
        refine lv_aload_n hx hb dX6_divide_79 rfl (lv_at hl 4 rfl) ?_
        refine lv_iload_n hx hb dX6_divide_80 rfl (lv_at hl 5 rfl) ?_
        refine lv_iload hx hb dX6_divide_81 (lv_at hl 1 rfl) ?_
        refine r_Vi (As := [.int (nI by9), .int (nI k)]) (rest := [.int (nI k), .ref (g + 6)]) C hM hS (c6_get l D kA N0 M1 g by9 k B (nI us) E0 hob1 hF1 hby (by omega)) (hob1) rfl gX6_divide_X6_get rfl rfl rfl ⟨rfl, by decide +kernel, by decide +kernel, (by decide +kernel : (parseMethodDescriptor yX6_get.desc).map (fun d => d.parameters.length) = some 2)⟩ ⟨Nat.le_of_ble_eq_true rfl, Nat.le_of_ble_eq_true rfl⟩ hl.1 rfl (Nat.le_of_ble_eq_true rfl) dX6_divide_83 ⟨Nat.le_of_ble_eq_true rfl, Nat.le_of_ble_eq_true rfl⟩ (fun x M2 H locs hp hM hS => ?_)
        obtain ⟨ex, eM2⟩ := hp
        rw [eM2] at hM
        rw [← hEf] at ex
        rw [ex]
        refine lv_i2l (v := (Ef k).toInt64) hx hb dX6_divide_86 rfl ?_
        refine r_topl C (lN (dg (Ef k))) (i2l_dg zu) ?_
        refine lv_iload hx hb dX6_divide_87 (lv_at hl 2 rfl) ?_
        refine lv_lshl (v := (lN (dg (Ef k))) <<< ((nI sh).toInt64 &&& 63)) hx hb dX6_divide_89 rfl ?_
        refine lv_ldc2 (v := 2147483647) hx hb hown (hts (.constantLong RX6 75 (2147483647)) (by decide +kernel)) dX6_divide_90 ?_
        refine lv_land hx hb dX6_divide_93 ?_
        refine lv_l2i (v := (((lN (dg (Ef k))) <<< ((nI sh).toInt64 &&& 63)) &&& 2147483647).toInt32) hx hb dX6_divide_94 rfl ?_
        refine r_topi C (nI (dg (Ef k) * 2 ^ sh % BB)) (one_val (dg_lt _) hsh) ?_
        refine lv_iload hx hb dX6_divide_95 (lv_at hl 0 rfl) ?_
        refine lv_ior hx hb dX6_divide_97 ?_
        refine r_topi C (nI (shl Ef 0 sh k)) (lwv_or hsh) ?_
        refine r_iast C hM hS (hv1) rfl (by omega) (by omega) dX6_divide_98 (fun H locs hM hS => ?_)
        refine lv_iinc (v := nI k - 1) (lv' := [(5, .int (nI k - 1)), (6, .int (nI (lwv Ef sh k))), (4, .int (nI sh)), (3, .int (nI n)), (0, .ref g), (1, .int (nI by9)), (2, .int (nI to))]) hx hb dX6_divide_99 hl (k := 1) rfl (r_decI _) (by decide) rfl (fun ls hl => ?_)
        refine lv_goto (tgt := 37) hx hb dX6_divide_102 (by decide) ?_
        refine ih _ _ H locs ls (by omega) (fun j h4 h5 => ?_) (hdv.sv _) hM hS (lv_sub hl [0, 2, 3, 4, 5, 6] rfl)
        by_cases q1 : j = k
        · rw [q1, pk_us]
        · rw [pk_un q1]; exact hw j (by omega) h5
      refine lv_iload hx hb dX6_divide_37 (lv_at hl 0 rfl) ?_
      refine r_if_ltN (tgt := 105) C (by omega) dX6_divide_39 (by decide) (fun hc => ?_) (fun hc => ?_)
      · exact hc.elim
      · refine lv_iload hx hb dX6_divide_42 (lv_at hl 1 rfl) ?_
        refine r_if_eqN (tgt := 52) C (by omega) dX6_divide_44 (by decide) (fun hd => ?_) (fun hd => ?_)
        · refine lv_iconst (v := nI 0) hx hb dX6_divide_52 (by decide) ?_
          refine lv_goto (tgt := 71) hx hb dX6_divide_53 (by decide) ?_
          refine lv_istore (lv' := [(6, .int (nI 0)), (5, .int (nI k)), (4, .int (nI sh)), (3, .int (nI n)), (0, .ref g), (1, .int (nI by9)), (2, .int (nI to))]) hx hb dX6_divide_71 hl (by decide) rfl (fun ls hl => ?_)
          refine hlo H locs ls hM hS ?_
          rw [lwv_0 (Or.inl hd)]
          exact (lv_sub hl [0, 1, 2, 3, 4, 5, 6] rfl)
        · refine lv_iload hx hb dX6_divide_47 (lv_at hl 0 rfl) ?_
          refine r_if_neN (tgt := 56) C (by omega) dX6_divide_49 (by decide) (fun he => ?_) (fun he => ?_)
          · have zu := nE (k - 1) (by omega)
            have lu := dg_lt (Ef (k - 1))
            refine lv_aload_n hx hb dX6_divide_56 rfl (lv_at hl 3 rfl) ?_
            refine lv_iload_n hx hb dX6_divide_57 rfl (lv_at hl 4 rfl) ?_
            refine lv_iload hx hb dX6_divide_58 (lv_at hl 0 rfl) ?_
            refine lv_iconst (v := nI 1) hx hb dX6_divide_60 (by decide) ?_
            refine r_isubN C (by omega) dX6_divide_61 ?_
            refine r_Vi (As := [.int (nI by9), .int (nI (k - 1))]) (rest := []) C hM hS (c6_get l D kA N0 M1 g by9 (k - 1) B (nI us) E0 hob1 hF1 hby (by omega)) (hob1) rfl gX6_divide_X6_get rfl rfl rfl ⟨rfl, by decide +kernel, by decide +kernel, (by decide +kernel : (parseMethodDescriptor yX6_get.desc).map (fun d => d.parameters.length) = some 2)⟩ ⟨Nat.le_of_ble_eq_true rfl, Nat.le_of_ble_eq_true rfl⟩ hl.1 rfl (Nat.le_of_ble_eq_true rfl) dX6_divide_62 ⟨Nat.le_of_ble_eq_true rfl, Nat.le_of_ble_eq_true rfl⟩ (fun x M2 H locs hp hM hS => ?_)
            obtain ⟨ex, eM2⟩ := hp
            rw [eM2] at hM
            rw [← hEf, nI_dg zu] at ex
            rw [ex]
            refine lv_bipush (v := nI 31) hx hb dX6_divide_65 (by decide) ?_
            refine lv_iload hx hb dX6_divide_67 (lv_at hl 1 rfl) ?_
            refine r_isubN C (by omega) dX6_divide_69 ?_
            refine lv_ishr hx hb dX6_divide_70 ?_
            refine r_topi C (nI (lwv Ef sh k)) (by rw [pk_shrN (by omega) _ (31 - sh) (s_sm (31 - sh) (by omega))]; unfold lwv; rw [if_neg (by omega)]) ?_
            refine lv_istore (lv' := [(6, .int (nI (lwv Ef sh k))), (5, .int (nI k)), (4, .int (nI sh)), (3, .int (nI n)), (0, .ref g), (1, .int (nI by9)), (2, .int (nI to))]) hx hb dX6_divide_71 hl (by decide) rfl (fun ls hl => ?_)
            exact hlo H locs ls hM hS (lv_sub hl [0, 1, 2, 3, 4, 5, 6] rfl)
          · refine lv_iconst (v := nI 0) hx hb dX6_divide_52 (by decide) ?_
            refine lv_goto (tgt := 71) hx hb dX6_divide_53 (by decide) ?_
            refine lv_istore (lv' := [(6, .int (nI 0)), (5, .int (nI k)), (4, .int (nI sh)), (3, .int (nI n)), (0, .ref g), (1, .int (nI by9)), (2, .int (nI to))]) hx hb dX6_divide_71 hl (by decide) rfl (fun ls hl => ?_)
            refine hlo H locs ls hM hS ?_
            rw [lwv_0 (Or.inr (by omega))]
            exact (lv_sub hl [0, 1, 2, 3, 4, 5, 6] rfl)
  -- how far
  have lp2 : ∀ (k sh : Nat) (H : Heap) (locs : List Loc) (ls : Array Slot), sh + k = 30 → dg (Ef (n - 1)) * 2 ^ sh < 2147483648 → xW D vwCl N0 M H → va_S (xA N0) s.heap H locs → lv_has ls 8 [(4, .int (nI sh)), (3, .int (nI n)), (0, .ref g), (1, .int (nI by9)), (2, .int (nI to))] → W p l e (xR 2) s m A0 below meth c H locs 0 0 Qp (F0 m 9 ls []) := by
    intro k
    induction k with
    | zero =>
      intro sh H locs ls hk hlt hM hS hl
      have hge : 1073741824 ≤ dg (Ef (n - 1)) * 2 ^ sh := by
        rw [show sh = 30 by omega]
        omega
      refine lv_aload_n hx hb dX6_divide_9 rfl (lv_at hl 2 rfl) ?_
      refine lv_iload_n hx hb dX6_divide_10 rfl (lv_at hl 3 rfl) ?_
      refine lv_iload_n hx hb dX6_divide_11 rfl (lv_at hl 1 rfl) ?_
      refine lv_iconst (v := nI 1) hx hb dX6_divide_12 (by decide) ?_
      refine r_isubN C (by omega) dX6_divide_13 ?_
      refine r_Vi (As := [.int (nI by9), .int (nI (n - 1))]) (rest := []) C hM hS (c6_get l D kA N0 M g by9 (n - 1) B (nI us) E0 hob dv0.2.1 hby (by omega)) (hob) rfl gX6_divide_X6_get rfl rfl rfl ⟨rfl, by decide +kernel, by decide +kernel, (by decide +kernel : (parseMethodDescriptor yX6_get.desc).map (fun d => d.parameters.length) = some 2)⟩ ⟨Nat.le_of_ble_eq_true rfl, Nat.le_of_ble_eq_true rfl⟩ hl.1 rfl (Nat.le_of_ble_eq_true rfl) dX6_divide_14 ⟨Nat.le_of_ble_eq_true rfl, Nat.le_of_ble_eq_true rfl⟩ (fun x M2 H locs hp hM hS => ?_)
      obtain ⟨ex, eM2⟩ := hp
      rw [eM2] at hM
      rw [← hEf, nI_dg (nE (n - 1) (by omega))] at ex
      rw [ex]
      refine lv_iload hx hb dX6_divide_17 (lv_at hl 0 rfl) ?_
      refine lv_ishl hx hb dX6_divide_19 ?_
      refine r_topi C (nI (dg (Ef (n - 1)) * 2 ^ sh)) (pk_shlN _ sh (s_sm sh (by omega)) (by omega)) ?_
      refine lv_ldc (v := nI 1073741824) hx hb hown (hts (.constant RX6 85 (1073741824)) (by decide +kernel)) dX6_divide_20 ?_
      refine lv_iand hx hb dX6_divide_22 ?_
      refine lv_if_ne (tgt := 32) hx hb dX6_divide_23 (by decide) (fun hc => ?_) (fun hc => ?_)
      · refine lv_iload_n hx hb dX6_divide_32 rfl (lv_at hl 1 rfl) ?_
        refine lv_iconst (v := nI 1) hx hb dX6_divide_33 (by decide) ?_
        refine r_isubN C (by omega) dX6_divide_34 ?_
        refine lv_istore (lv' := [(5, .int (nI (n - 1))), (4, .int (nI sh)), (3, .int (nI n)), (0, .ref g), (1, .int (nI by9)), (2, .int (nI to))]) hx hb dX6_divide_35 hl (by decide) rfl (fun ls hl => ?_)
        refine lp3 sh (by omega) hge hlt n v0 M H locs ls (Nat.le_refl _) (fun j h4 h5 => by omega) dv0 hM hS ?_
        rw [← show nI n - 1 = nI (n - 1) from by rw [show n = (n - 1) + 1 by omega, nI_pred, Nat.add_sub_cancel]] at hl
        exact (lv_sub hl [0, 1, 2, 3, 4, 5] rfl)
      · exfalso
        have := (bit30 hlt).mp hc
        omega
    | succ k ih =>
      intro sh H locs ls hk hlt hM hS hl
      refine lv_aload_n hx hb dX6_divide_9 rfl (lv_at hl 2 rfl) ?_
      refine lv_iload_n hx hb dX6_divide_10 rfl (lv_at hl 3 rfl) ?_
      refine lv_iload_n hx hb dX6_divide_11 rfl (lv_at hl 1 rfl) ?_
      refine lv_iconst (v := nI 1) hx hb dX6_divide_12 (by decide) ?_
      refine r_isubN C (by omega) dX6_divide_13 ?_
      refine r_Vi (As := [.int (nI by9), .int (nI (n - 1))]) (rest := []) C hM hS (c6_get l D kA N0 M g by9 (n - 1) B (nI us) E0 hob dv0.2.1 hby (by omega)) (hob) rfl gX6_divide_X6_get rfl rfl rfl ⟨rfl, by decide +kernel, by decide +kernel, (by decide +kernel : (parseMethodDescriptor yX6_get.desc).map (fun d => d.parameters.length) = some 2)⟩ ⟨Nat.le_of_ble_eq_true rfl, Nat.le_of_ble_eq_true rfl⟩ hl.1 rfl (Nat.le_of_ble_eq_true rfl) dX6_divide_14 ⟨Nat.le_of_ble_eq_true rfl, Nat.le_of_ble_eq_true rfl⟩ (fun x M2 H locs hp hM hS => ?_)
      obtain ⟨ex, eM2⟩ := hp
      rw [eM2] at hM
      rw [← hEf, nI_dg (nE (n - 1) (by omega))] at ex
      rw [ex]
      refine lv_iload hx hb dX6_divide_17 (lv_at hl 0 rfl) ?_
      refine lv_ishl hx hb dX6_divide_19 ?_
      refine r_topi C (nI (dg (Ef (n - 1)) * 2 ^ sh)) (pk_shlN _ sh (s_sm sh (by omega)) (by omega)) ?_
      refine lv_ldc (v := nI 1073741824) hx hb hown (hts (.constant RX6 85 (1073741824)) (by decide +kernel)) dX6_divide_20 ?_
      refine lv_iand hx hb dX6_divide_22 ?_
      refine lv_if_ne (tgt := 32) hx hb dX6_divide_23 (by decide) (fun hc => ?_) (fun hc => ?_)
      · have hge : 1073741824 ≤ dg (Ef (n - 1)) * 2 ^ sh := by
          rcases Nat.lt_or_ge (dg (Ef (n - 1)) * 2 ^ sh) 1073741824 with q1 | q1
          · exact absurd ((bit30 hlt).mpr q1) hc
          · exact q1
        refine lv_iload_n hx hb dX6_divide_32 rfl (lv_at hl 1 rfl) ?_
        refine lv_iconst (v := nI 1) hx hb dX6_divide_33 (by decide) ?_
        refine r_isubN C (by omega) dX6_divide_34 ?_
        refine lv_istore (lv' := [(5, .int (nI (n - 1))), (4, .int (nI sh)), (3, .int (nI n)), (0, .ref g), (1, .int (nI by9)), (2, .int (nI to))]) hx hb dX6_divide_35 hl (by decide) rfl (fun ls hl => ?_)
        refine lp3 sh (by omega) hge hlt n v0 M H locs ls (Nat.le_refl _) (fun j h4 h5 => by omega) dv0 hM hS ?_
        rw [← show nI n - 1 = nI (n - 1) from by rw [show n = (n - 1) + 1 by omega, nI_pred, Nat.add_sub_cancel]] at hl
        exact (lv_sub hl [0, 1, 2, 3, 4, 5] rfl)
      · have hlt2 := (bit30 hlt).mp hc
        refine lv_iinc (v := nI (sh + 1)) (lv' := [(4, .int (nI (sh + 1))), (3, .int (nI n)), (0, .ref g), (1, .int (nI by9)), (2, .int (nI to))]) hx hb dX6_divide_26 hl (k := 0) rfl (r_inc _) (by decide) rfl (fun ls hl => ?_)
        refine lv_goto (tgt := 9) hx hb dX6_divide_29 (by decide) ?_
        exact ih (sh + 1) H locs ls (by omega) (by rw [Nat.pow_succ, ← Nat.mul_assoc]; omega) hM hS (lv_sub hl [0, 1, 2, 3, 4] rfl)
  refine lv_istore_n (lv' := [(3, .int (nI n)), (0, .ref g), (1, .int (nI by9)), (2, .int (nI to))]) hx hb dX6_divide_5 rfl hl (by decide) rfl (fun ls hl => ?_)
  refine lv_iconst (v := nI 0) hx hb dX6_divide_6 (by decide) ?_
  refine lv_istore (lv' := [(4, .int (nI 0)), (3, .int (nI n)), (0, .ref g), (1, .int (nI by9)), (2, .int (nI to))]) hx hb dX6_divide_7 hl (by decide) rfl (fun ls hl => ?_)
  exact lp2 30 0 _ _ _ rfl (by rw [Nat.pow_zero, Nat.mul_one]; exact htl) hM hS (lv_sub hl [0, 1, 2, 3, 4] rfl)
end NM5
