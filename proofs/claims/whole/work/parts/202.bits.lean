/-! ===== lN n to 2^64: shifts, and, or, masks, one bit ===== -/
theorem wb_tb (n : Nat) : (lN n).toBitVec = BitVec.ofNat 64 n := rfl
theorem wb_inj {a b : Int64} (h : a.toBitVec = b.toBitVec) : a = b := Int64.toBitVec_inj.mp h
theorem wb_tn {n : Nat} (h : n < 2 ^ 64) : (lN n).toBitVec.toNat = n := by rw [wb_tb, BitVec.toNat_ofNat, Nat.mod_eq_of_lt h]
theorem wb_of (x : Int64) : ∃ n, n < 2 ^ 64 ∧ x = lN n := ⟨x.toBitVec.toNat, x.toBitVec.isLt, wb_inj (by rw [wb_tb]; simp)⟩
theorem wb_of32 (x : Int32) : ∃ n, n < 2 ^ 32 ∧ x = nI n := ⟨x.toBitVec.toNat, x.toBitVec.isLt, Int32.toBitVec_inj.mp (by show _ = BitVec.ofNat 32 _; simp)⟩
theorem wb_c : ∀ k, k < 64 → ((nI k).toInt64 &&& 63) = lN k := by decide +kernel
theorem wb_cu : ∀ k, k < 64 → ((nI k).toInt64.toUInt64 &&& Int64.toUInt64 63) = UInt64.ofNat k := by decide +kernel
theorem wb_sm : ∀ k, k < 64 → (BitVec.ofNat 64 k).smod 64 = BitVec.ofNat 64 k := by decide +kernel
theorem wb_pw {a b : Nat} (h : a ≤ b) : 2 ^ b = 2 ^ a * 2 ^ (b - a) := by rw [← Nat.pow_add]; congr 1; omega
theorem wb_lt2 {a b : Nat} (h : a < b) : 2 ^ a < 2 ^ b := Nat.pow_lt_pow_right (by decide) h
theorem wb_mod (n : Nat) : lN n = lN (n % 2 ^ 64) := wb_inj (by rw [wb_tb, wb_tb]; apply BitVec.eq_of_toNat_eq; rw [BitVec.toNat_ofNat, BitVec.toNat_ofNat, Nat.mod_mod])
theorem wb_shr {n k : Nat} (hn : n < 2 ^ 64) (hk : k < 64) : ((lN n).toUInt64 >>> ((nI k).toInt64.toUInt64 &&& Int64.toUInt64 63)).toInt64 = lN (n / 2 ^ k) := by
  rw [wb_cu k hk]
  apply wb_inj
  apply BitVec.eq_of_toNat_eq
  show ((lN n).toUInt64 >>> UInt64.ofNat k).toNat = (BitVec.ofNat 64 _).toNat
  have h1 : (UInt64.ofNat k).toNat = k := by
    show (BitVec.ofNat 64 k).toNat = k
    rw [BitVec.toNat_ofNat, Nat.mod_eq_of_lt (by omega)]
  have h2 : (lN n).toUInt64.toNat = n := wb_tn hn
  rw [UInt64.toNat_shiftRight, h1, h2, Nat.mod_eq_of_lt hk, Nat.shiftRight_eq_div_pow, BitVec.toNat_ofNat, Nat.mod_eq_of_lt (Nat.lt_of_le_of_lt (Nat.div_le_self _ _) hn)]
theorem wb_shl (n : Nat) {k : Nat} (hk : k < 64) : lN n <<< ((nI k).toInt64 &&& 63) = lN (n * 2 ^ k) := by
  rw [wb_c k hk]
  apply wb_inj
  rw [Int64.toBitVec_shiftLeft, wb_tb, wb_tb, wb_tb, wb_sm k hk]
  apply BitVec.eq_of_toNat_eq
  rw [BitVec.shiftLeft_eq', BitVec.toNat_shiftLeft, BitVec.toNat_ofNat, BitVec.toNat_ofNat, BitVec.toNat_ofNat, Nat.mod_eq_of_lt (show k < 2 ^ 64 by omega), Nat.shiftLeft_eq, Nat.mul_mod, Nat.mod_mod, ← Nat.mul_mod]
theorem wb_and {a b : Nat} (ha : a < 2 ^ 64) (hb : b < 2 ^ 64) : lN a &&& lN b = lN (a &&& b) := by
  apply wb_inj
  rw [Int64.toBitVec_and, wb_tb, wb_tb, wb_tb]
  apply BitVec.eq_of_toNat_eq
  rw [BitVec.toNat_and, BitVec.toNat_ofNat, BitVec.toNat_ofNat, BitVec.toNat_ofNat, Nat.mod_eq_of_lt ha, Nat.mod_eq_of_lt hb, Nat.mod_eq_of_lt (Nat.and_lt_two_pow _ hb)]
theorem wb_or {a b : Nat} (ha : a < 2 ^ 64) (hb : b < 2 ^ 64) : lN a ||| lN b = lN (a ||| b) := by
  apply wb_inj
  rw [Int64.toBitVec_or, wb_tb, wb_tb, wb_tb]
  apply BitVec.eq_of_toNat_eq
  rw [BitVec.toNat_or, BitVec.toNat_ofNat, BitVec.toNat_ofNat, BitVec.toNat_ofNat, Nat.mod_eq_of_lt ha, Nat.mod_eq_of_lt hb, Nat.mod_eq_of_lt (Nat.or_lt_two_pow ha hb)]
theorem wb_mask {n k : Nat} (hn : n < 2 ^ 64) (hk : k < 64) : lN n &&& lN (2 ^ k - 1) = lN (n % 2 ^ k) := by
  rw [wb_and hn (by have := wb_lt2 hk; omega), Nat.and_two_pow_sub_one_eq_mod]
theorem wb_a1 {n : Nat} (hn : n < 2 ^ 64) : lN n &&& 1 = lN (n % 2) := wb_mask (k := 1) hn (by decide)
theorem lN_mod64 (n : Nat) (h : n < 2 ^ 63) : (lN n).toInt = (n : Int) := pk_lT h
/-- two limbs side by side, shifted right by k, one limb of it -/
theorem pair_val {hi lo k : Nat} (h1 : hi < BB) (h2 : lo < BB) (hk : k < 64) : ((((lN hi <<< ((nI 31).toInt64 &&& 63)) ||| lN lo).toUInt64 >>> ((nI k).toInt64.toUInt64 &&& Int64.toUInt64 63)).toInt64 &&& 2147483647).toInt32 = nI ((hi * BB + lo) / 2 ^ k % BB) := by
  have hB : BB = 2147483648 := rfl
  rw [wb_shl hi (by decide), wb_or (by omega) (by omega)]
  have e1 : hi * 2 ^ 31 ||| lo = hi * BB + lo := by
    have := Nat.shiftLeft_add_eq_or_of_lt (i := 31) (b := lo) (by omega) hi
    rw [Nat.shiftLeft_eq] at this
    exact this.symm
  have h9 : hi * BB + lo < 2 ^ 64 := by rw [hB] at h1 h2 ⊢; omega
  rw [e1, wb_shr h9 hk]
  have e2 : (2147483647 : Int64) = lN (2 ^ 31 - 1) := by decide
  have h3 : (hi * BB + lo) / 2 ^ k < 2 ^ 64 := Nat.lt_of_le_of_lt (Nat.div_le_self _ _) h9
  rw [e2, wb_mask h3 (by decide), lN_i]
  rfl
theorem i2l_dg {x : Int32} (h : 0 ≤ x.toInt) : x.toInt64 = lN (dg x) := by
  apply l_eqI
  have := dg_lt x
  have hB : BB = 2147483648 := rfl
  rw [l_i2l rfl, pk_lT (by omega), dg_int h]
theorem nI_dg {x : Int32} (h : 0 ≤ x.toInt) : x = nI (dg x) := i_nI (by rw [dg_int h])
theorem dg_nI {n : Nat} (h : n < 2147483648) : dg (nI n) = n := by
  unfold dg
  rw [nI_toInt (by omega)]
  rfl
-- how many bits
theorem bl_top {lo d k : Nat} (hd : 0 < d) (hl : lo < BB ^ k) : bl (lo + d * BB ^ k) = 31 * k + bl d := by
  have a := bl_hi d
  have b := bl_lo hd
  have c := bl_pos hd
  obtain ⟨j, hj⟩ : ∃ j, bl d = j + 1 := ⟨bl d - 1, by omega⟩
  rw [hj] at a b ⊢
  rw [Nat.add_sub_cancel] at b
  rw [BB_two] at hl ⊢
  rw [← Nat.add_assoc]
  apply bl_of
  · rw [Nat.pow_add, Nat.mul_comm]
    have : 2 ^ j * 2 ^ (31 * k) ≤ d * 2 ^ (31 * k) := Nat.mul_le_mul_right _ b
    omega
  · have h1 : (d + 1) * 2 ^ (31 * k) ≤ 2 ^ (j + 1) * 2 ^ (31 * k) := Nat.mul_le_mul_right _ a
    rw [Nat.add_mul, Nat.one_mul, ← Nat.pow_add] at h1
    have e : 31 * k + j + 1 = j + 1 + 31 * k := by omega
    rw [e]
    omega
theorem bl_div {a k : Nat} (h : 2 ^ k ≤ a) : bl (a / 2 ^ k) = bl a - k := by
  have hp := Nat.two_pow_pos k
  have ha : 0 < a := by omega
  have h1 := bl_hi a
  have h2 := bl_lo ha
  have h3 := bl_pos ha
  have hk : k < bl a := (Nat.pow_lt_pow_iff_right (by decide : 1 < 2)).mp (Nat.lt_of_le_of_lt h h1)
  obtain ⟨j, hj⟩ : ∃ j, bl a = k + (j + 1) := ⟨bl a - k - 1, by omega⟩
  rw [hj] at h1 h2 ⊢
  have e : k + (j + 1) - k = j + 1 := by omega
  rw [e]
  apply bl_of
  · rw [Nat.le_div_iff_mul_le hp, ← Nat.pow_add]
    have e2 : k + (j + 1) - 1 = j + k := by omega
    rw [e2] at h2
    exact h2
  · rw [Nat.div_lt_iff_lt_mul hp, ← Nat.pow_add, Nat.add_comm (j + 1) k]
    exact h1
theorem bl_small {a : Nat} (h : 0 < a) (h4 : a < 4) : bl a = 1 + a / 2 := by
  have : a = 1 ∨ a = 2 ∨ a = 3 := by omega
  rcases this with rfl | rfl | rfl <;> decide
/-- a row whose highest limb that isn't 0 stands at place k - 1 -/
theorem bl_row {f : Nat → Int32} {n k : Nat} (hk : 0 < k) (hkn : k ≤ n) (hz : ∀ j, k ≤ j → j < n → f j = 0) (ht : 0 < dg (f (k - 1))) : bl (V f n) = 31 * (k - 1) + bl (dg (f (k - 1))) := by
  obtain ⟨j, rfl⟩ : ∃ j, k = j + 1 := ⟨k - 1, by omega⟩
  rw [V_top hkn hz, V_s, Nat.add_sub_cancel]
  exact bl_top ht (V_lt f j)
section RCOPY
variable {p : Program} {l : Launch} {e : Env} {R : Room} {s : State} {m : MethodId} {args : Array Value} {below : List Frame} {meth : Method} {c : Code} {H : Heap} {locs : List Loc} {cells slots : Nat} {Q : State → Prop}
variable {cc : ByteArray} {pc nL : Nat} {ret : Option FieldType} {own : String} {Ts : List Cond} {ls : Array Slot} {rest : List Value} {D : va_G} {cl : List vw_C} {a : Nat} {tys : List (ClassId × FieldType)} {N0 : Nat} {M : xM}
theorem r_copy (C : xC p s m args meth c cc nL ret own Ts D cl tys N0) (hM : xW D cl N0 M H) (hS : va_S (xA N0) s.heap H locs) {a0 : Nat} {cA : ClassId} {n0 n1 : Nat} {f g : Nat → Int32} (ha0 : M a0 = some (xI cA n0 f)) (ha : M a = some (xI cA n1 g)) (ht : tys[0]? = some (cA, .int)) {sp dp n index : Nat} (h4 : sp + n ≤ n0) (h5 : dp + n ≤ n1) (h6 : n0 < 2 ^ 31) (h7 : n1 < 2 ^ 31)
    (hlink : (Cond.methodLink own index arraycopyName).before args s = true) (hnat : (Cond.native arraycopyName).before args s = true) (hstat : (Cond.static arraycopyName).before args s = true) (hini : (Cond.initialized "java/lang/System").before args s = true) (hl : ls.size = nL) (hframes : 1 ≤ R.frames) (hlocals : (rest.map fun v => v.category).sum + (nativeFrameWords "java/lang/System" "arraycopy" 5 + 11) ≤ R.locals) (hdg : decode cc pc = .ok (.invokestatic index, 3))
    (kk : ∀ (H1 : Heap) (locs1 : List Loc), xW D cl N0 (xset M a (xI cA n1 (va_cpy f g sp dp n))) H1 → va_S (xA N0) s.heap H1 locs1 → W p l e R s m args below meth c H1 locs1 cells slots Q (F0 m (pc + 3) ls rest)) : W p l e R s m args below meth c H locs cells slots Q (F0 m pc ls (.int (nI n) :: .int (nI dp) :: .ref a :: .int (nI sp) :: .ref a0 :: rest)) := by
  obtain ⟨hx, hb, hml, hown, hts, hr, hlocks, hK, hN⟩ := C
  obtain ⟨ws, hP, hD, hm⟩ := hM
  obtain ⟨k0, hk0⟩ := (hm a0 _).mp ha0
  obtain ⟨k, hk⟩ := (hm a _).mp ha
  have e1 : (nI n).toNatClampNeg = n := nI_clamp (by omega)
  have e2 : (nI sp).toNatClampNeg = sp := nI_clamp (by omega)
  have e3 : (nI dp).toNatClampNeg = dp := nI_clamp (by omega)
  refine va_copyi hx hb (hml.trans hl.symm) hown hlink hnat hstat hini hK hP hD hS k0 k 0 0 hk0 hk ht ht rfl (nI_pos (by omega)) (nI_pos (by omega)) (nI_pos (by omega)) (by rw [e1, e2]; exact h4) (by rw [e1, e3]; exact h5) (fun i _ => rfl) hframes hlocals hdg (fun H1 locs1 hP1 hD1 hS1 => ?_)
  rw [e1, e2, e3] at hP1 hD1
  exact kk H1 locs1 (xW.put hD hm hk hP1 hD1) hS1
end RCOPY
