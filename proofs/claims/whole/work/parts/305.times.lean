theorem s_u9 : ∀ n, n < 32 → (((nI n).toUInt32 &&& Int32.toUInt32 31).toBitVec % 32).toNat = n := by decide +kernel
theorem dig_of {f : Nat → Int32} {L i : Nat} (hi : i < L) : V f L / BB ^ i = Vw f i (L - i) ∧ Vw f i (L - i) = dg (f i) + BB * Vw f (i + 1) (L - i - 1) := by
  have e : L = i + (L - i) := by omega
  constructor
  · rw [e, V_split, Nat.add_mul_div_left _ _ (BBp i), Nat.div_eq_of_lt (V_lt f i), Nat.zero_add, ← e]
  · obtain ⟨j, hj⟩ : ∃ j, L - i = j + 1 := ⟨L - i - 1, by omega⟩
    rw [hj, Vw_head, Nat.add_sub_cancel]
theorem bit_of {f : Nat → Int32} {L i b : Nat} (hi : i < L) (hb : b < 31) : V f L / 2 ^ (31 * i + b) % 2 = dg (f i) / 2 ^ b % 2 := by
  obtain ⟨e1, e2⟩ := dig_of (f := f) hi
  rw [Nat.pow_add, ← BB_two, ← Nat.div_div_eq_div_mul, e1, e2]
  have hp := Nat.two_pow_pos b
  have e3 : BB = 2 ^ b * (2 * 2 ^ (30 - b)) := by
    rw [← Nat.pow_succ', ← Nat.pow_add, show b + (30 - b + 1) = 31 by omega]
    rfl
  rw [e3, Nat.mul_assoc, Nat.add_mul_div_left _ _ hp, Nat.mul_assoc, Nat.add_mul_mod_self_left]
/-- what lies outside of field and running sum has changed -/
theorem RG.other {kA : Nat → ClassId} {M0 M M1 : xM} {h L pp id : Nat} {gs : List (Option Nat)} (g : RG kA M0 M h L pp gs id) (hgl : gs.length ≤ 9) (hf : ∀ b, h + 49 ≤ b → b ≤ h + 70 → M1 b = M b) : RG kA M1 M1 h L pp gs id := by
  obtain ⟨a1, a2, a3, a4, a5, a6, a7, a8, a9, a10, a11⟩ := g
  exact ⟨by rw [hf _ (by omega) (by omega)]; exact a1, a2.kept (hf _ (by omega) (by omega)) (hf _ (by omega) (by omega)) (hf _ (by omega) (by omega)), a3.kept (hf _ (by omega) (by omega)), a4.kept (hf _ (by omega) (by omega)), a5.kept (hf _ (by omega) (by omega)), a6.kept (hf _ (by omega) (by omega)), a7.kept (hf _ (by omega) (by omega)), a8.kept (hf _ (by omega) (by omega)), fun j hj => (a9 j hj).kept (hf _ (by omega) (by omega)), fun j w hj => by
    have hlt : j < 9 := by
      have h1 := (List.getElem?_eq_some_iff.1 hj).1
      omega
    exact ⟨(a10 j w hj).1.kept (hf _ (by omega) (by omega)), (a10 j w hj).2⟩, fun b _ => rfl⟩
section RUN4
variable {p : Program} {l : Launch} {e : Env} {R : Room} {s : State} {m : MethodId} {args : Array Value} {below : List Frame} {meth : Method} {c : Code} {Q : State → Prop} {cells slots : Nat} {ret : Option FieldType} {D : va_G} {kA : Nat → ClassId} {N0 : Nat}
set_option maxRecDepth 100000 in
theorem lp_bits {M0 : xM} {h L k A B q ka i : Nat} {f : Nat → Int32} {P : Pt k} (C : xC p s m args meth c cX4_takeTimes 5 ret RX4 wsX4_takeTimes D vwCl (xT kA) N0) (hA : isN kA M0 (h + 3) L A) (hAb : A < k + 1) (hodd : (k + 1) % 2 = 1) (hk : 0 < k) (hpt : isPt kA M0 q L k P) (hon : onC (fz k A) (fz k B) P) (hq : q + 2 < h + 49 ∨ h + 70 < q) (hka : M0 ka = some (xI (kA 0) L f)) (nf : nn f L) (hkb : ka < h + 49 ∨ h + 70 < ka) (hi : i < L) (hL0 : 0 < L) (hL : L < 40)
    (hexit : ∀ (M : xM) (H : Heap) (locs : List Loc) (ls : Array Slot), RJ kA M0 M h L k (kT (fz k A) P (V f L / 2 ^ (31 * i))) → xW D vwCl N0 M H → va_S (xA N0) s.heap H locs → lv_has ls 5 [(3, .int (nI i)), (0, .ref (h + 61)), (1, .ref ka), (2, .ref q)] → W p l e (xR 5) s m args below meth c H locs 0 0 Q (F0 m 49 ls [])) :
    ∀ (b : Nat) (M : xM) (H : Heap) (locs : List Loc) (ls : Array Slot), b ≤ 31 → RJ kA M0 M h L k (kT (fz k A) P (V f L / 2 ^ (31 * i + b))) → xW D vwCl N0 M H → va_S (xA N0) s.heap H locs → lv_has ls 5 [(4, .int (nI b - 1)), (3, .int (nI i)), (0, .ref (h + 61)), (1, .ref ka), (2, .ref q)] → W p l e (xR 5) s m args below meth c H locs 0 0 Q (F0 m 17 ls []) := by
  obtain ⟨hx, hb, hml, hown, hts, hr, hlocks, hK, hN⟩ := _root_.id C
  intro b
  induction b with
  | zero =>
    intro M H locs ls hb0 hj hM hS hl
    refine lv_iload hx hb dX4_takeTimes_17 (lv_at hl 0 rfl) ?_
    refine lv_if_lt (tgt := 49) hx hb dX4_takeTimes_19 (by decide) (fun hc => ?_) (fun hc => ?_)
    · exact hexit M H locs ls hj hM hS (lv_sub hl [1, 2, 3, 4] rfl)
    · exact absurd (by decide) hc
  | succ b ih =>
    intro M H locs ls hb0 hj hM hS hl
    have hl : lv_has ls 5 [(4, .int (nI b)), (3, .int (nI i)), (0, .ref (h + 61)), (1, .ref ka), (2, .ref q)] := by rw [nI_pred] at hl; exact hl
    have hrn0 : ∃ dd, M (h + 61) = some (oRn h dd) := by
      rcases hj with ⟨z, hg, -⟩ | ⟨x, y, z, hg, -⟩
      · exact ⟨_, hg.rn⟩
      · exact ⟨_, hg.rn⟩
    obtain ⟨dd, hrn⟩ := hrn0
    have hfr0 : ∀ {M : xM} {r : Option (Pt k)}, RJ kA M0 M h L k r → ∀ b, b < h + 49 ∨ h + 70 < b → M b = M0 b := by
      intro M r hj b hb
      rcases hj with ⟨z, hg, -⟩ | ⟨x, y, z, hg, -⟩
      · exact hg.fr b (by omega)
      · exact hg.fr b (by omega)
    have hbit := bit_of (f := f) (b := b) hi (by omega)
    have hhalf : V f L / 2 ^ (31 * i + b) / 2 = V f L / 2 ^ (31 * i + (b + 1)) := by rw [Nat.div_div_eq_div_mul, ← Nat.pow_succ]; rfl
    have hstep := kT_s (fz k A) P (V f L / 2 ^ (31 * i + b))
    rw [hhalf, kstep_eq] at hstep
    refine lv_iload hx hb dX4_takeTimes_17 (lv_at hl 0 rfl) ?_
    refine r_if_ltN (tgt := 49) C (by omega) dX4_takeTimes_19 (by decide) (fun hc => ?_) (fun hc => ?_)
    · exact hc.elim
    · refine lv_aload_n hx hb dX4_takeTimes_22 rfl (lv_at hl 2 rfl) ?_
      refine r_Vv (As := []) (rest := []) C hM hS (c_addItselfJ l D kA N0 M0 M h L k A _ hj hA hAb hodd hL) (hrn) rfl gX4_takeTimes_X4_addItself rfl rfl rfl ⟨rfl, by decide +kernel, by decide +kernel, (by decide +kernel : (parseMethodDescriptor yX4_addItself.desc).map (fun d => d.parameters.length) = some 0)⟩ ⟨Nat.le_of_ble_eq_true rfl, Nat.le_of_ble_eq_true rfl⟩ hl.1 rfl (Nat.le_of_ble_eq_true rfl) dX4_takeTimes_23 ⟨Nat.le_of_ble_eq_true rfl, Nat.le_of_ble_eq_true rfl⟩ (fun M1 H locs hj1 hM hS => ?_)
      have hka1 : M1 ka = some (xI (kA 0) L f) := by rw [hfr0 hj1 ka hkb]; exact hka
      refine lv_aload_n hx hb dX4_takeTimes_26 rfl (lv_at hl 3 rfl) ?_
      refine lv_iload_n hx hb dX4_takeTimes_27 rfl (lv_at hl 1 rfl) ?_
      refine r_iald C hM (hka1) rfl (by omega) (by omega) dX4_takeTimes_28 ?_
      refine lv_iload hx hb dX4_takeTimes_29 (lv_at hl 0 rfl) ?_
      rw [nI_dg (nf i hi)]
      refine lv_iushr (v := ((nI (dg (f i))).toUInt32 >>> ((nI b).toUInt32 &&& Int32.toUInt32 31)).toInt32) hx hb dX4_takeTimes_31 rfl ?_
      have hdl := dg_lt (f i)
      have hB : BB = 2147483648 := rfl
      have hdle : dg (f i) / 2 ^ b ≤ dg (f i) := Nat.div_le_self _ _
      refine r_topi C (nI (dg (f i) / 2 ^ b)) (pk_ushrN (by omega) _ b (by have := s_u9 b (by omega); exact this)) ?_
      refine lv_iconst (v := nI 1) hx hb dX4_takeTimes_32 (by decide) ?_
      refine lv_iand hx hb dX4_takeTimes_33 ?_
      refine r_topi C (nI (dg (f i) / 2 ^ b % 2)) (pk_andN (by omega) 1 (by decide)) ?_
      refine lv_iconst (v := nI 1) hx hb dX4_takeTimes_34 (by decide) ?_
      refine r_icmp_neN (tgt := 43) C (by omega) (by omega) dX4_takeTimes_35 (by decide) (fun hd => ?_) (fun hd => ?_)
      · refine lv_iinc (v := nI b - 1) (lv' := [(4, .int (nI b - 1)), (3, .int (nI i)), (0, .ref (h + 61)), (1, .ref ka), (2, .ref q)]) hx hb dX4_takeTimes_43 hl (k := 0) rfl (r_decI _) (by decide) rfl (fun ls hl => ?_)
        refine lv_goto (tgt := 17) hx hb dX4_takeTimes_46 (by decide) ?_
        have hb9 : decide (V f L / 2 ^ (31 * i + b) % 2 = 1) = false := by rw [hbit]; exact decide_eq_false (by omega)
        rw [hb9] at hstep
        have hstep2 : kT (fz k A) P (V f L / 2 ^ (31 * i + b)) = dblR (fz k A) (kT (fz k A) P (V f L / 2 ^ (31 * i + (b + 1)))) := hstep
        rw [← hstep2] at hj1
        exact ih M1 H locs ls (by omega) hj1 hM hS (lv_sub hl [0, 1, 2, 3, 4] rfl)
      · have hrn1 : ∃ dd, M1 (h + 61) = some (oRn h dd) := by
          rcases hj1 with ⟨z, hg, -⟩ | ⟨x, y, z, hg, -⟩
          · exact ⟨_, hg.rn⟩
          · exact ⟨_, hg.rn⟩
        obtain ⟨dd1, hrn1⟩ := hrn1
        have hr9 : ∀ R, dblR (fz k A) (kT (fz k A) P (V f L / 2 ^ (31 * i + (b + 1)))) = some R → onC (fz k A) (fz k B) R := by
          intro R hR
          cases hT : kT (fz k A) P (V f L / 2 ^ (31 * i + (b + 1))) with
          | none => rw [hT] at hR; cases hR
          | some R0 =>
            rw [hT] at hR
            have h0 := kT_on hon _ _ R0 (Nat.lt_two_pow_self) hT
            exact psum_on h0 h0 hR
        refine lv_aload_n hx hb dX4_takeTimes_38 rfl (lv_at hl 2 rfl) ?_
        refine lv_aload_n hx hb dX4_takeTimes_39 rfl (lv_at hl 4 rfl) ?_
        refine r_Vv (As := [.ref q]) (rest := []) C hM hS (c_addPoint l D kA N0 M0 M1 h L k A B q _ P hj1 hA hAb hodd hk hpt hon hr9 hq hL0 hL) (hrn1) rfl gX4_takeTimes_X4_addPoint rfl rfl rfl ⟨rfl, by decide +kernel, by decide +kernel, (by decide +kernel : (parseMethodDescriptor yX4_addPoint.desc).map (fun d => d.parameters.length) = some 1)⟩ ⟨Nat.le_of_ble_eq_true rfl, Nat.le_of_ble_eq_true rfl⟩ hl.1 rfl (Nat.le_of_ble_eq_true rfl) dX4_takeTimes_40 ⟨Nat.le_of_ble_eq_true rfl, Nat.le_of_ble_eq_true rfl⟩ (fun M2 H locs hj2 hM hS => ?_)
        refine lv_iinc (v := nI b - 1) (lv' := [(4, .int (nI b - 1)), (3, .int (nI i)), (0, .ref (h + 61)), (1, .ref ka), (2, .ref q)]) hx hb dX4_takeTimes_43 hl (k := 0) rfl (r_decI _) (by decide) rfl (fun ls hl => ?_)
        refine lv_goto (tgt := 17) hx hb dX4_takeTimes_46 (by decide) ?_
        have hb9 : decide (V f L / 2 ^ (31 * i + b) % 2 = 1) = true := by rw [hbit]; exact decide_eq_true (by omega)
        rw [hb9] at hstep
        have hstep2 : kT (fz k A) P (V f L / 2 ^ (31 * i + b)) = addR (fz k A) P (dblR (fz k A) (kT (fz k A) P (V f L / 2 ^ (31 * i + (b + 1))))) := hstep
        rw [← hstep2] at hj2
        exact ih M2 H locs ls (by omega) hj2 hM hS (lv_sub hl [0, 1, 2, 3, 4] rfl)
set_option maxRecDepth 100000 in
theorem lp_limbs {M0 : xM} {h L k A B q ka : Nat} {f : Nat → Int32} {P : Pt k} (C : xC p s m args meth c cX4_takeTimes 5 ret RX4 wsX4_takeTimes D vwCl (xT kA) N0) (hA : isN kA M0 (h + 3) L A) (hAb : A < k + 1) (hodd : (k + 1) % 2 = 1) (hk : 0 < k) (hpt : isPt kA M0 q L k P) (hon : onC (fz k A) (fz k B) P) (hq : q + 2 < h + 49 ∨ h + 70 < q) (hka : M0 ka = some (xI (kA 0) L f)) (nf : nn f L) (hkb : ka < h + 49 ∨ h + 70 < ka) (hL0 : 0 < L) (hL : L < 40)
    (hexit : ∀ (M : xM) (H : Heap) (locs : List Loc) (ls : Array Slot), RJ kA M0 M h L k (kT (fz k A) P (V f L)) → xW D vwCl N0 M H → va_S (xA N0) s.heap H locs → W p l e (xR 5) s m args below meth c H locs 0 0 Q (F0 m 55 ls [])) :
    ∀ (j : Nat) (M : xM) (H : Heap) (locs : List Loc) (ls : Array Slot), j ≤ L → RJ kA M0 M h L k (kT (fz k A) P (V f L / 2 ^ (31 * j))) → xW D vwCl N0 M H → va_S (xA N0) s.heap H locs → lv_has ls 5 [(3, .int (nI j - 1)), (0, .ref (h + 61)), (1, .ref ka), (2, .ref q)] → W p l e (xR 5) s m args below meth c H locs 0 0 Q (F0 m 9 ls []) := by
  obtain ⟨hx, hb, hml, hown, hts, hr, hlocks, hK, hN⟩ := _root_.id C
  intro j
  induction j with
  | zero =>
    intro M H locs ls hj0 hj hM hS hl
    refine lv_iload_n hx hb dX4_takeTimes_9 rfl (lv_at hl 0 rfl) ?_
    refine lv_if_lt (tgt := 55) hx hb dX4_takeTimes_10 (by decide) (fun hc => ?_) (fun hc => ?_)
    · rw [Nat.mul_zero, Nat.pow_zero, Nat.div_one] at hj
      exact hexit M H locs ls hj hM hS
    · exact absurd (by decide) hc
  | succ j ih =>
    intro M H locs ls hj0 hj hM hS hl
    have hl : lv_has ls 5 [(3, .int (nI j)), (0, .ref (h + 61)), (1, .ref ka), (2, .ref q)] := by rw [nI_pred] at hl; exact hl
    refine lv_iload_n hx hb dX4_takeTimes_9 rfl (lv_at hl 0 rfl) ?_
    refine r_if_ltN (tgt := 55) C (by omega) dX4_takeTimes_10 (by decide) (fun hc => ?_) (fun hc => ?_)
    · exact hc.elim
    · refine lv_bipush (v := nI 31 - 1) hx hb dX4_takeTimes_13 (by decide) ?_
      refine lv_istore (lv' := [(4, .int (nI 31 - 1)), (3, .int (nI j)), (0, .ref (h + 61)), (1, .ref ka), (2, .ref q)]) hx hb dX4_takeTimes_15 hl (by decide) rfl (fun ls hl => ?_)
      refine lp_bits (B := B) C hA hAb hodd hk hpt hon hq hka nf hkb (show j < L by omega) hL0 hL (fun M1 H locs ls hj1 hM hS hl => ?_) 31 M H locs ls (Nat.le_refl _) (by rw [show 31 * j + 31 = 31 * (j + 1) by omega]; exact hj) hM hS hl
      refine lv_iinc (v := nI j - 1) (lv' := [(3, .int (nI j - 1)), (0, .ref (h + 61)), (1, .ref ka), (2, .ref q)]) hx hb dX4_takeTimes_49 hl (k := 0) rfl (r_decI _) (by decide) rfl (fun ls hl => ?_)
      refine lv_goto (tgt := 9) hx hb dX4_takeTimes_52 (by decide) ?_
      exact ih M1 H locs ls (by omega) hj1 hM hS hl
set_option maxRecDepth 100000 in
theorem c_takeTimes (l : Launch) (D : va_G) (kA : Nat → ClassId) (N0 : Nat) (M : xM) (h L k A B q ka n id : Nat) (gs : List (Option Nat)) (P : Pt k) (hg : RG kA M M h L (k + 1) gs id) (hA : isN kA M (h + 3) L A) (hAb : A < k + 1) (hodd : (k + 1) % 2 = 1) (hk : 0 < k) (hpt : isPt kA M q L k P) (hon : onC (fz k A) (fz k B) P) (hq : q + 2 < h + 49 ∨ h + 70 < q) (hka : isN kA M ka L n) (hkb : ka < h + 49 ∨ h + 70 < ka) (hL0 : 0 < L) (hL : L < 40) : cV l yX4_takeTimes wsX4_takeTimes (xR 5) [.ref (h + 61), .ref ka, .ref q] D kA N0 M (fun M1 => RJ kA M M1 h L k (kT (fz k A) P n)) := by
  obtain ⟨f, hf, nf, Vf⟩ := hka
  have hrn := hg.rn
  refine r_met (cc := cX4_takeTimes) (maxL := 5) (ret := none) (by decide) rfl (Nat.le_of_ble_eq_true rfl) ?_
  intro p e s m below meth c ls C hM hnm hl
  obtain ⟨hx, hb, hml, hown, hts, hr, hlocks, hK, hN⟩ := _root_.id C
  have hS : va_S (xA N0) s.heap s.heap [] := va_S.rf
  have hl : lv_has ls 5 [(0, .ref (h + 61)), (1, .ref ka), (2, .ref q)] := hl
  refine lv_aload_n hx hb dX4_takeTimes_0 rfl (lv_at hl 0 rfl) ?_
  refine r_Vv (As := []) (rest := []) C hM hS (c_startAtIdentity l D kA N0 M M h L (k + 1) id gs hg (by omega) hL0 hL) (hrn) rfl gX4_takeTimes_X4_startAtIdentity rfl rfl rfl ⟨rfl, by decide +kernel, by decide +kernel, (by decide +kernel : (parseMethodDescriptor yX4_startAtIdentity.desc).map (fun d => d.parameters.length) = some 0)⟩ ⟨Nat.le_of_ble_eq_true rfl, Nat.le_of_ble_eq_true rfl⟩ hl.1 rfl (Nat.le_of_ble_eq_true rfl) dX4_takeTimes_1 ⟨Nat.le_of_ble_eq_true rfl, Nat.le_of_ble_eq_true rfl⟩ (fun M1 H locs hg1 hM hS => ?_)
  have hf1 : M1 ka = some (xI (kA 0) L f) := by rw [hg1.fr ka (by omega)]; exact hf
  refine lv_aload_n hx hb dX4_takeTimes_4 rfl (lv_at hl 1 rfl) ?_
  refine r_alen C hM (hf1) rfl dX4_takeTimes_5 ?_
  refine lv_iconst (v := 1) hx hb dX4_takeTimes_6 (by decide) ?_
  refine lv_isub hx hb dX4_takeTimes_7 ?_
  refine lv_istore_n (lv' := [(3, .int (nI L - 1)), (0, .ref (h + 61)), (1, .ref ka), (2, .ref q)]) hx hb dX4_takeTimes_8 rfl hl (by decide) rfl (fun ls hl => ?_)
  have hz : V f L / 2 ^ (31 * L) = 0 := Nat.div_eq_of_lt (by rw [← BB_two]; exact V_lt f L)
  refine lp_limbs (B := B) (P := P) C hA hAb hodd hk hpt hon hq hf nf hkb hL0 hL (fun M2 H locs ls hj hM hS => ?_) L M1 H _ ls (Nat.le_refl L) ?_ hM hS hl
  · rw [Vf] at hj
    exact r_vret C hM hS (hj) dX4_takeTimes_55
  · rw [hz, kT_0]
    exact Or.inl ⟨1, hg1, ⟨1, by rw [fz_1]; grind⟩, rfl⟩
end RUN4
