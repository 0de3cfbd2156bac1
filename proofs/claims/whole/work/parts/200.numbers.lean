section N1
variable {p : Program} {l : Launch} {e : Env} {R : Room} {s : State} {m : MethodId} {args : Array Value} {below : List Frame} {meth : Method} {c : Code} {Q : State → Prop} {cells slots : Nat} {ret : Option FieldType} {D : va_G} {kA : Nat → ClassId} {N0 : Nat}
-- Arrays.fill
set_option maxRecDepth 100000 in
theorem lp_fill {M : xM} {a n : Nat} {v : Int32} (C : xC p s m args meth c cJ7_fill_53178 4 ret RJ7 wsJ7_fill_53178 D vwCl (xT kA) N0) (hn : n < 2 ^ 31)
    (hexit : ∀ (f : Nat → Int32) (H : Heap) (locs : List Loc) (ls : Array Slot), (∀ j, j < n → f j = v) → xW D vwCl N0 (xset M a (xI (kA 0) n f)) H → va_S (xA N0) s.heap H locs → W p l e R s m args below meth c H locs cells slots Q (F0 m 20 ls [])) :
    ∀ (k i : Nat) (f : Nat → Int32) (H : Heap) (locs : List Loc) (ls : Array Slot), i + k = n → (∀ j, j < i → f j = v) → xW D vwCl N0 (xset M a (xI (kA 0) n f)) H → va_S (xA N0) s.heap H locs → lv_has ls 4 [(2, .int (nI i)), (3, .int (nI n)), (0, .ref a), (1, .int v)] → W p l e R s m args below meth c H locs cells slots Q (F0 m 5 ls []) := by
  obtain ⟨hx, hb, hml, hown, hts, hr, hlocks, hK, hN⟩ := id C
  intro k
  induction k with
  | zero =>
    intro i f H locs ls hi hf hM hS hl
    refine lv_iload_n hx hb dJ7_fill_53178_5 rfl (lv_at hl 0 rfl) ?_
    refine lv_iload_n hx hb dJ7_fill_53178_6 rfl (lv_at hl 1 rfl) ?_
    refine r_icmp_geN (tgt := 20) C (by omega) (by omega) dJ7_fill_53178_7 (by decide) (fun hc => ?_) (fun hc => ?_)
    · exact hexit f H locs ls (fun j hj => hf j (by omega)) hM hS
    · omega
  | succ k ih =>
    intro i f H locs ls hi hf hM hS hl
    refine lv_iload_n hx hb dJ7_fill_53178_5 rfl (lv_at hl 0 rfl) ?_
    refine lv_iload_n hx hb dJ7_fill_53178_6 rfl (lv_at hl 1 rfl) ?_
    refine r_icmp_geN (tgt := 20) C (by omega) (by omega) dJ7_fill_53178_7 (by decide) (fun hc => ?_) (fun hc => ?_)
    · omega
    · refine lv_aload_n hx hb dJ7_fill_53178_10 rfl (lv_at hl 2 rfl) ?_
      refine lv_iload_n hx hb dJ7_fill_53178_11 rfl (lv_at hl 0 rfl) ?_
      refine lv_iload_n hx hb dJ7_fill_53178_12 rfl (lv_at hl 3 rfl) ?_
      refine r_iast C hM hS (xset_s) rfl (by omega) (by omega) dJ7_fill_53178_13 (fun H locs hM hS => ?_)
      rw [xset_xset] at hM
      refine lv_iinc (v := nI (i + 1)) (lv' := [(2, .int (nI (i + 1))), (3, .int (nI n)), (0, .ref a), (1, .int v)]) hx hb dJ7_fill_53178_14 hl (k := 0) rfl (r_inc _) (by decide) rfl (fun ls hl => ?_)
      refine lv_goto (tgt := 5) hx hb dJ7_fill_53178_17 (by decide) ?_
      refine ih (i + 1) (upd f i v) H locs ls (by omega) (fun j hj => ?_) hM hS (lv_sub hl [0, 1, 2, 3] rfl)
      by_cases h : j = i
      · rw [h, pk_us]
      · rw [pk_un h]
        exact hf j (by omega)
set_option maxRecDepth 100000 in
theorem c_fill (l : Launch) (D : va_G) (kA : Nat → ClassId) (N0 : Nat) (M : xM) (a n : Nat) (f0 : Nat → Int32) (v : Int32) (ha : M a = some (xI (kA 0) n f0)) (hn : n < 2 ^ 31) : cV l yJ7_fill_53178 wsJ7_fill_53178 (xR 0) [.ref a, .int v] D kA N0 M (fun M1 => ∃ f, M1 = xset M a (xI (kA 0) n f) ∧ ∀ j, j < n → f j = v) := by
  refine r_met (cc := cJ7_fill_53178) (maxL := 4) (ret := none) (by decide) rfl (Nat.le_of_ble_eq_true rfl) ?_
  intro p e s m below meth c ls C hM hnm hl
  obtain ⟨hx, hb, hml, hown, hts, hr, hlocks, hK, hN⟩ := id C
  have hS : va_S (xA N0) s.heap s.heap [] := va_S.rf
  have hl : lv_has ls 4 [(0, .ref a), (1, .int v)] := hl
  refine lv_iconst (v := nI 0) hx hb dJ7_fill_53178_0 (by decide) ?_
  refine lv_istore_n (lv' := [(2, .int (nI 0)), (0, .ref a), (1, .int v)]) hx hb dJ7_fill_53178_1 rfl hl (by decide) rfl (fun ls hl => ?_)
  refine lv_aload_n hx hb dJ7_fill_53178_2 rfl (lv_at hl 1 rfl) ?_
  refine r_alen C hM (ha) rfl dJ7_fill_53178_3 ?_
  refine lv_istore_n (lv' := [(3, .int (nI n)), (2, .int (nI 0)), (0, .ref a), (1, .int v)]) hx hb dJ7_fill_53178_4 rfl hl (by decide) rfl (fun ls hl => ?_)
  have hM' : xW D vwCl N0 (xset M a (xI (kA 0) n f0)) s.heap := by rw [xset_id ha]; exact hM
  refine lp_fill C hn (fun f H locs ls hf hM hS => ?_) n 0 f0 s.heap [] ls (by omega) (fun j hj => by omega) hM' hS (lv_sub hl [1, 0, 2, 3] rfl)
  exact r_vret C hM hS (⟨f, rfl, hf⟩) dJ7_fill_53178_20
-- sizeOf
set_option maxRecDepth 100000 in
theorem lp_sizeOf {M : xM} {H : Heap} {locs : List Loc} {row n : Nat} {f : Nat → Int32} (C : xC p s m args meth c cX1_sizeOf 2 ret RX1 wsX1_sizeOf D vwCl (xT kA) N0) (hM : xW D vwCl N0 M H) (ha : M row = some (xI (kA 0) n f)) (hn : n < 2 ^ 31)
    (hexit : ∀ (k : Nat) (ls : Array Slot), k ≤ n → (∀ j, k ≤ j → j < n → f j = 0) → (0 < k → f (k - 1) ≠ 0) → lv_has ls 2 [(1, .int (nI k)), (0, .ref row)] → W p l e R s m args below meth c H locs cells slots Q (F0 m 21 ls [])) :
    ∀ (k : Nat) (ls : Array Slot), k ≤ n → (∀ j, k ≤ j → j < n → f j = 0) → lv_has ls 2 [(1, .int (nI k)), (0, .ref row)] → W p l e R s m args below meth c H locs cells slots Q (F0 m 3 ls []) := by
  obtain ⟨hx, hb, hml, hown, hts, hr, hlocks, hK, hN⟩ := id C
  intro k
  induction k with
  | zero =>
    intro ls hk hz hl
    refine lv_iload_n hx hb dX1_sizeOf_3 rfl (lv_at hl 0 rfl) ?_
    refine r_if_leN (tgt := 21) C (by omega) dX1_sizeOf_4 (by decide) (fun hc => ?_) (fun hc => ?_)
    · exact hexit 0 ls hk hz (fun h => by omega) hl
    · omega
  | succ k ih =>
    intro ls hk hz hl
    refine lv_iload_n hx hb dX1_sizeOf_3 rfl (lv_at hl 0 rfl) ?_
    refine r_if_leN (tgt := 21) C (by omega) dX1_sizeOf_4 (by decide) (fun hc => ?_) (fun hc => ?_)
    · omega
    · refine lv_aload_n hx hb dX1_sizeOf_7 rfl (lv_at hl 1 rfl) ?_
      refine lv_iload_n hx hb dX1_sizeOf_8 rfl (lv_at hl 0 rfl) ?_
      refine lv_iconst (v := nI 1) hx hb dX1_sizeOf_9 (by decide) ?_
      refine r_isubN C (Nat.le_add_left 1 _) dX1_sizeOf_10 ?_
      refine W.eq (g2 := F0 m 11 ls (.int (nI k) :: .ref row :: [])) rfl ?_
      refine r_iald C hM (ha) rfl (by omega) (by omega) dX1_sizeOf_11 ?_
      refine lv_if_ne (tgt := 21) hx hb dX1_sizeOf_12 (by decide) (fun hd => ?_) (fun hd => ?_)
      · exact hexit (k + 1) ls hk hz (fun _ => hd) hl
      · refine lv_iinc (v := nI k) (lv' := [(1, .int (nI k)), (0, .ref row)]) hx hb dX1_sizeOf_15 hl (k := 0) rfl (r_dec _) (by decide) rfl (fun ls hl => ?_)
        refine lv_goto (tgt := 3) hx hb dX1_sizeOf_18 (by decide) ?_
        refine ih ls (by omega) (fun j h1 h2 => ?_) hl
        by_cases h : j = k
        · rw [h]; exact hd
        · exact hz j (by omega) h2
set_option maxRecDepth 100000 in
theorem c_sizeOf (l : Launch) (D : va_G) (kA : Nat → ClassId) (N0 : Nat) (M : xM) (row n : Nat) (f : Nat → Int32) (ha : M row = some (xI (kA 0) n f)) (hn : n < 2 ^ 31) : cI l yX1_sizeOf wsX1_sizeOf (xR 0) [.ref row] D kA N0 M (fun r M1 => M1 = M ∧ ∃ k, r = nI k ∧ k ≤ n ∧ (∀ j, k ≤ j → j < n → f j = 0) ∧ (0 < k → f (k - 1) ≠ 0)) := by
  refine r_met (cc := cX1_sizeOf) (maxL := 2) (ret := (some .int)) (by decide) rfl (Nat.le_of_ble_eq_true rfl) ?_
  intro p e s m below meth c ls C hM hnm hl
  obtain ⟨hx, hb, hml, hown, hts, hr, hlocks, hK, hN⟩ := id C
  have hS : va_S (xA N0) s.heap s.heap [] := va_S.rf
  have hl : lv_has ls 2 [(0, .ref row)] := hl
  refine lv_aload_n hx hb dX1_sizeOf_0 rfl (lv_at hl 0 rfl) ?_
  refine r_alen C hM (ha) rfl dX1_sizeOf_1 ?_
  refine lv_istore_n (lv' := [(1, .int (nI n)), (0, .ref row)]) hx hb dX1_sizeOf_2 rfl hl (by decide) rfl (fun ls hl => ?_)
  refine lp_sizeOf C hM ha hn (fun k ls hk hz hp hl => ?_) n ls (Nat.le_refl n) (fun j h1 h2 => by omega) hl
  refine lv_iload_n hx hb dX1_sizeOf_21 rfl (lv_at hl 0 rfl) ?_
  exact r_iret C hM hS (⟨rfl, k, rfl, hk, hz, hp⟩) dX1_sizeOf_22
-- compare
set_option maxRecDepth 100000 in
theorem lp_compare {M : xM} {H : Heap} {locs : List Loc} {one other n : Nat} {f g : Nat → Int32} (C : xC p s m args meth c cX1_compare 3 ret RX1 wsX1_compare D vwCl (xT kA) N0) (hM : xW D vwCl N0 M H) (ha : M one = some (xI (kA 0) n f)) (hb2 : M other = some (xI (kA 0) n g)) (hn : n < 2 ^ 31)
    (hexit : ∀ (v : Int32) (pc : Nat) (ls : Array Slot), (pc = 32 ∨ pc = 40) → ((v = 0 ∧ ∀ j, j < n → f j = g j) ∨ (∃ k, k < n ∧ (∀ j, k < j → j < n → f j = g j) ∧ ((v = -1 ∧ f k < g k) ∨ (v = 1 ∧ g k < f k)))) → W p l e R s m args below meth c H locs cells slots Q (F0 m pc ls [.int v])) :
    ∀ (k : Nat) (ls : Array Slot), k ≤ n → (∀ j, k ≤ j → j < n → f j = g j) → lv_has ls 3 [(2, .int (nI k - 1)), (0, .ref one), (1, .ref other)] → W p l e R s m args below meth c H locs cells slots Q (F0 m 5 ls []) := by
  obtain ⟨hx, hb, hml, hown, hts, hr, hlocks, hK, hN⟩ := id C
  intro k
  induction k with
  | zero =>
    intro ls hk hz hl
    refine lv_iload_n hx hb dX1_compare_5 rfl (lv_at hl 0 rfl) ?_
    refine lv_if_lt (tgt := 39) hx hb dX1_compare_6 (by decide) (fun hc => ?_) (fun hc => ?_)
    · refine lv_iconst (v := nI 0) hx hb dX1_compare_39 (by decide) ?_
      exact hexit _ 40 ls (Or.inr rfl) (Or.inl ⟨nI_0, fun j hj => hz j (by omega) hj⟩)
    · exact absurd (by decide) hc
  | succ k ih =>
    intro ls hk hz hl
    have hl : lv_has ls 3 [(2, .int (nI k)), (0, .ref one), (1, .ref other)] := by rw [nI_pred] at hl; exact hl
    refine lv_iload_n hx hb dX1_compare_5 rfl (lv_at hl 0 rfl) ?_
    refine r_if_ltN (tgt := 39) C (by omega) dX1_compare_6 (by decide) (fun hc => ?_) (fun hc => ?_)
    · exact hc.elim
    · refine lv_aload_n hx hb dX1_compare_9 rfl (lv_at hl 1 rfl) ?_
      refine lv_iload_n hx hb dX1_compare_10 rfl (lv_at hl 0 rfl) ?_
      refine r_iald C hM (ha) rfl (by omega) (by omega) dX1_compare_11 ?_
      refine lv_aload_n hx hb dX1_compare_12 rfl (lv_at hl 2 rfl) ?_
      refine lv_iload_n hx hb dX1_compare_13 rfl (lv_at hl 0 rfl) ?_
      refine r_iald C hM (hb2) rfl (by omega) (by omega) dX1_compare_14 ?_
      refine lv_icmp_eq (tgt := 33) hx hb dX1_compare_15 (by decide) (fun hd => ?_) (fun hd => ?_)
      · refine lv_iinc (v := nI k - 1) (lv' := [(2, .int (nI k - 1)), (0, .ref one), (1, .ref other)]) hx hb dX1_compare_33 hl (k := 0) rfl (r_decI _) (by decide) rfl (fun ls hl => ?_)
        refine lv_goto (tgt := 5) hx hb dX1_compare_36 (by decide) ?_
        exact ih ls (by omega) (fun j h1 h2 => by
          by_cases h : j = k
          · rw [h]; exact hd
          · exact hz j (by omega) h2) hl
      · refine lv_aload_n hx hb dX1_compare_18 rfl (lv_at hl 1 rfl) ?_
        refine lv_iload_n hx hb dX1_compare_19 rfl (lv_at hl 0 rfl) ?_
        refine r_iald C hM (ha) rfl (by omega) (by omega) dX1_compare_20 ?_
        refine lv_aload_n hx hb dX1_compare_21 rfl (lv_at hl 2 rfl) ?_
        refine lv_iload_n hx hb dX1_compare_22 rfl (lv_at hl 0 rfl) ?_
        refine r_iald C hM (hb2) rfl (by omega) (by omega) dX1_compare_23 ?_
        refine lv_icmp_ge (tgt := 31) hx hb dX1_compare_24 (by decide) (fun hg => ?_) (fun hg => ?_)
        · refine lv_iconst (v := nI 1) hx hb dX1_compare_31 (by decide) ?_
          refine hexit _ 32 ls (Or.inl rfl) (Or.inr ⟨k, by omega, fun j h1 h2 => hz j (by omega) h2, Or.inr ⟨rfl, ?_⟩⟩)
          rw [i_le] at hg
          rw [i_lt]
          have : (f k).toInt ≠ (g k).toInt := fun h => hd (i_eqI h)
          omega
        · refine lv_iconst (v := (-1)) hx hb dX1_compare_27 (by decide) ?_
          refine lv_goto (tgt := 32) hx hb dX1_compare_28 (by decide) ?_
          refine hexit _ 32 ls (Or.inl rfl) (Or.inr ⟨k, by omega, fun j h1 h2 => hz j (by omega) h2, Or.inl ⟨rfl, ?_⟩⟩)
          rw [i_le] at hg
          rw [i_lt]
          omega
end N1
