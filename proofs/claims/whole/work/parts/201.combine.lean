section N2
variable {p : Program} {l : Launch} {e : Env} {R : Room} {s : State} {m : MethodId} {args : Array Value} {below : List Frame} {meth : Method} {c : Code} {Q : State → Prop} {cells slots : Nat} {ret : Option FieldType} {D : va_G} {kA : Nat → ClassId} {N0 : Nat}
set_option maxRecDepth 100000 in
theorem c_compare (l : Launch) (D : va_G) (kA : Nat → ClassId) (N0 : Nat) (M : xM) (one other n : Nat) (f g : Nat → Int32) (ha : M one = some (xI (kA 0) n f)) (hb2 : M other = some (xI (kA 0) n g)) (nf : nn f n) (ng : nn g n) (hn : n < 2 ^ 31) : cI l yX1_compare wsX1_compare (xR 0) [.ref one, .ref other] D kA N0 M (fun r M1 => M1 = M ∧ ((r = 0 ∧ V f n = V g n) ∨ (r = -1 ∧ V f n < V g n) ∨ (r = 1 ∧ V g n < V f n))) := by
  refine r_met (cc := cX1_compare) (maxL := 3) (ret := (some .int)) (by decide) rfl (Nat.le_of_ble_eq_true rfl) ?_
  intro p e s m below meth c ls C hM hnm hl
  obtain ⟨hx, hb, hml, hown, hts, hr, hlocks, hK, hN⟩ := id C
  have hS : va_S (xA N0) s.heap s.heap [] := va_S.rf
  have hl : lv_has ls 3 [(0, .ref one), (1, .ref other)] := hl
  refine lv_aload_n hx hb dX1_compare_0 rfl (lv_at hl 0 rfl) ?_
  refine r_alen C hM (ha) rfl dX1_compare_1 ?_
  refine lv_iconst (v := 1) hx hb dX1_compare_2 (by decide) ?_
  refine lv_isub hx hb dX1_compare_3 ?_
  refine lv_istore_n (lv' := [(2, .int (nI n - 1)), (0, .ref one), (1, .ref other)]) hx hb dX1_compare_4 rfl hl (by decide) rfl (fun ls hl => ?_)
  refine lp_compare C hM ha hb2 hn (fun v pc ls hpc hv => ?_) n ls (Nat.le_refl n) (fun j h1 h2 => by omega) hl
  have hp : M = M ∧ ((v = 0 ∧ V f n = V g n) ∨ (v = -1 ∧ V f n < V g n) ∨ (v = 1 ∧ V g n < V f n)) := by
    refine ⟨rfl, ?_⟩
    rcases hv with ⟨h1, h2⟩ | ⟨k, hk, h2, h3⟩
    · exact Or.inl ⟨h1, V_congr h2⟩
    · have n1 := nn_dg nf hk
      have n2 := nn_dg ng hk
      rcases h3 with ⟨h3, h4⟩ | ⟨h3, h4⟩
      · exact Or.inr (Or.inl ⟨h3, V_less hk h2 (by rw [i_lt] at h4; omega)⟩)
      · exact Or.inr (Or.inr ⟨h3, V_less hk (fun j a b => (h2 j a b).symm) (by rw [i_lt] at h4; omega)⟩)
  rcases hpc with rfl | rfl
  · exact r_iret C hM hS hp dX1_compare_32
  · exact r_iret C hM hS hp dX1_compare_40
set_option maxRecDepth 100000 in
theorem lp_combine {M : xM} {out one other n : Nat} {f0 f1 f2 : Nat → Int32} {sg : Int32} {σ : Int} (C : xC p s m args meth c cX1_combine 7 ret RX1 wsX1_combine D vwCl (xT kA) N0) (h0 : M out = some (xI (kA 0) n f0)) (h1 : M one = some (xI (kA 0) n f1)) (h2 : M other = some (xI (kA 0) n f2)) (n1 : nn f1 n) (n2 : nn f2 n) (hσ : sg.toInt = σ) (hs : σ = 1 ∨ σ = -1) (hn : n < 2 ^ 31)
    (hexit : ∀ (f : Nat → Int32) (cy : Int64) (H : Heap) (locs : List Loc) (ls : Array Slot), nn f n → (V f n : Int) + cy.toInt * ((BB ^ n : Nat) : Int) = V f1 n + σ * V f2 n → -1 ≤ cy.toInt → cy.toInt ≤ 1 → xW D vwCl N0 (xset M out (xI (kA 0) n f)) H → va_S (xA N0) s.heap H locs → lv_has ls 7 [(4, .long cy)] → W p l e R s m args below meth c H locs cells slots Q (F0 m 56 ls [])) :
    ∀ (k i : Nat) (f : Nat → Int32) (cy : Int64) (H : Heap) (locs : List Loc) (ls : Array Slot), i + k = n → (∀ j, i ≤ j → f j = f0 j) → nn f i → (V f i : Int) + cy.toInt * ((BB ^ i : Nat) : Int) = V f1 i + σ * V f2 i → -1 ≤ cy.toInt → cy.toInt ≤ 1 → xW D vwCl N0 (xset M out (xI (kA 0) n f)) H → va_S (xA N0) s.heap H locs → lv_has ls 7 [(6, .int (nI i)), (4, .long cy), (0, .ref out), (1, .ref one), (2, .ref other), (3, .int sg)] → W p l e R s m args below meth c H locs cells slots Q (F0 m 6 ls []) := by
  obtain ⟨hx, hb, hml, hown, hts, hr, hlocks, hK, hN⟩ := id C
  intro k
  induction k with
  | zero =>
    intro i f cy H locs ls hi hf hnf hI c1 c2 hM hS hl
    refine lv_iload hx hb dX1_combine_6 (lv_at hl 0 rfl) ?_
    refine lv_aload_n hx hb dX1_combine_8 rfl (lv_at hl 2 rfl) ?_
    refine r_alen C hM (xset_s) rfl dX1_combine_9 ?_
    refine r_icmp_geN (tgt := 56) C (by omega) (by omega) dX1_combine_10 (by decide) (fun hc => ?_) (fun hc => ?_)
    · have hi : i = n := by omega
      subst hi
      exact hexit f cy H locs ls hnf hI c1 c2 hM hS (lv_sub hl [1] rfl)
    · omega
  | succ k ih =>
    intro i f cy H locs ls hi hf hnf hI c1 c2 hM hS hl
    refine lv_iload hx hb dX1_combine_6 (lv_at hl 0 rfl) ?_
    refine lv_aload_n hx hb dX1_combine_8 rfl (lv_at hl 2 rfl) ?_
    refine r_alen C hM (xset_s) rfl dX1_combine_9 ?_
    refine r_icmp_geN (tgt := 56) C (by omega) (by omega) dX1_combine_10 (by decide) (fun hc => ?_) (fun hc => ?_)
    · omega
    · obtain ⟨g1, hg1, e1⟩ := al_get h0 h1 hf
      obtain ⟨g2, hg2, e2⟩ := al_get h0 h2 hf
      refine lv_lload hx hb dX1_combine_13 (lv_at hl 1 rfl) ?_
      refine lv_aload_n hx hb dX1_combine_15 rfl (lv_at hl 3 rfl) ?_
      refine lv_iload hx hb dX1_combine_16 (lv_at hl 0 rfl) ?_
      refine r_iald C hM (hg1) rfl (by omega) (by omega) dX1_combine_18 ?_
      refine lv_i2l (v := (g1 i).toInt64) hx hb dX1_combine_19 rfl ?_
      refine lv_iload_n hx hb dX1_combine_20 rfl (lv_at hl 5 rfl) ?_
      refine lv_i2l (v := sg.toInt64) hx hb dX1_combine_21 rfl ?_
      refine lv_aload_n hx hb dX1_combine_22 rfl (lv_at hl 4 rfl) ?_
      refine lv_iload hx hb dX1_combine_23 (lv_at hl 0 rfl) ?_
      refine r_iald C hM (hg2) rfl (by omega) (by omega) dX1_combine_25 ?_
      refine lv_i2l (v := (g2 i).toInt64) hx hb dX1_combine_26 rfl ?_
      refine lv_lmul hx hb dX1_combine_27 ?_
      refine lv_ladd hx hb dX1_combine_28 ?_
      refine lv_ladd hx hb dX1_combine_29 ?_
      refine lv_topl (fun v_1 ev_1 => ?_)
      refine lv_lstore (lv' := [(4, .long v_1), (6, .int (nI i)), (0, .ref out), (1, .ref one), (2, .ref other), (3, .int sg)]) hx hb dX1_combine_30 hl (by decide) rfl (fun ls hl => ?_)
      refine lv_aload_n hx hb dX1_combine_32 rfl (lv_at hl 2 rfl) ?_
      refine lv_iload hx hb dX1_combine_33 (lv_at hl 1 rfl) ?_
      refine lv_lload hx hb dX1_combine_35 (lv_at hl 0 rfl) ?_
      refine lv_ldc2 (v := 2147483647) hx hb hown (hts (.constantLong RX1 33 (2147483647)) (by decide +kernel)) dX1_combine_37 ?_
      refine lv_land hx hb dX1_combine_40 ?_
      refine lv_l2i (v := (v_1 &&& 2147483647).toInt32) hx hb dX1_combine_41 rfl ?_
      refine r_iast C hM hS (xset_s) rfl (by omega) (by omega) dX1_combine_42 (fun H locs hM hS => ?_)
      rw [xset_xset] at hM
      refine lv_lload hx hb dX1_combine_43 (lv_at hl 0 rfl) ?_
      refine lv_bipush (v := nI 31) hx hb dX1_combine_45 (by decide) ?_
      refine lv_lshr (v := v_1 >>> ((nI 31).toInt64 &&& 63)) hx hb dX1_combine_47 rfl ?_
      refine lv_topl (fun v_2 ev_2 => ?_)
      refine lv_lstore (lv' := [(4, .long v_2), (6, .int (nI i)), (0, .ref out), (1, .ref one), (2, .ref other), (3, .int sg)]) hx hb dX1_combine_48 hl (by decide) rfl (fun ls hl => ?_)
      refine lv_iinc (v := nI (i + 1)) (lv' := [(6, .int (nI (i + 1))), (4, .long v_2), (0, .ref out), (1, .ref one), (2, .ref other), (3, .int sg)]) hx hb dX1_combine_50 hl (k := 1) rfl (r_inc _) (by decide) rfl (fun ls hl => ?_)
      refine lv_goto (tgt := 6) hx hb dX1_combine_53 (by decide) ?_
      have hv1 := cmb_v (x := g1 i) (y := g2 i) hσ hs c1 c2
      rw [← ev_1] at hv1
      have hv2 := cmb_c v_1
      rw [← ev_2] at hv2
      have ho := cmb_o v_1
      rw [e1 i (Nat.le_refl i), e2 i (Nat.le_refl i)] at hv1
      have d1 := nn_dg n1 (show i < n by omega)
      have d2 := nn_dg n2 (show i < n by omega)
      have l1 := dg_lt (f1 i)
      have l2 := dg_lt (f2 i)
      have hB : BB = 2147483648 := rfl
      have hT : v_1.toInt = cy.toInt + ((dg (f1 i) : Int) + σ * (dg (f2 i) : Int)) := by rw [hv1, d1, d2]
      have hst := cmb_step (d1 := dg (f1 i)) (d2 := dg (f2 i)) hI hT
      refine ih (i + 1) (upd f i ((v_1 &&& 2147483647).toInt32)) v_2 H locs ls (by omega) (fun j hj => ?_) (fun j hj => ?_) ?_ ?_ ?_ hM hS (lv_sub hl [0, 1, 2, 3, 4, 5] rfl)
      · rw [pk_un (by omega)]
        exact hf j (by omega)
      · by_cases hq : j = i
        · rw [hq, pk_us, ho]
          omega
        · rw [pk_un hq]
          exact hnf j (by omega)
      · rw [V_upd, V_s, V_s, Nat.pow_succ, hv2]
        have : dg ((v_1 &&& 2147483647).toInt32) = (v_1.toInt % 2147483648).toNat := by
          unfold dg
          rw [ho]
        rw [this]
        exact hst
      · rw [hv2]
        rcases hs with h | h <;> rw [h] at hT <;> omega
      · rw [hv2]
        rcases hs with h | h <;> rw [h] at hT <;> omega
set_option maxRecDepth 100000 in
theorem c_combine (l : Launch) (D : va_G) (kA : Nat → ClassId) (N0 : Nat) (M : xM) (out one other n : Nat) (f0 f1 f2 : Nat → Int32) (sg : Int32) (σ : Int) (h0 : M out = some (xI (kA 0) n f0)) (h1 : M one = some (xI (kA 0) n f1)) (h2 : M other = some (xI (kA 0) n f2)) (n1 : nn f1 n) (n2 : nn f2 n) (hσ : sg.toInt = σ) (hs : σ = 1 ∨ σ = -1) (hn : n < 2 ^ 31) : cJ l yX1_combine wsX1_combine (xR 0) [.ref out, .ref one, .ref other, .int sg] D kA N0 M (fun r M1 => ∃ f, M1 = xset M out (xI (kA 0) n f) ∧ nn f n ∧ (V f n : Int) + r.toInt * ((BB ^ n : Nat) : Int) = V f1 n + σ * V f2 n ∧ -1 ≤ r.toInt ∧ r.toInt ≤ 1) := by
  refine r_met (cc := cX1_combine) (maxL := 7) (ret := (some .long)) (by decide) rfl (Nat.le_of_ble_eq_true rfl) ?_
  intro p e s m below meth c ls C hM hnm hl
  obtain ⟨hx, hb, hml, hown, hts, hr, hlocks, hK, hN⟩ := id C
  have hS : va_S (xA N0) s.heap s.heap [] := va_S.rf
  have hl : lv_has ls 7 [(0, .ref out), (1, .ref one), (2, .ref other), (3, .int sg)] := hl
  refine lv_lconst (v := 0) hx hb dX1_combine_0 (by decide) ?_
  refine lv_lstore (lv' := [(4, .long 0), (0, .ref out), (1, .ref one), (2, .ref other), (3, .int sg)]) hx hb dX1_combine_1 hl (by decide) rfl (fun ls hl => ?_)
  refine lv_iconst (v := nI 0) hx hb dX1_combine_3 (by decide) ?_
  refine lv_istore (lv' := [(6, .int (nI 0)), (4, .long 0), (0, .ref out), (1, .ref one), (2, .ref other), (3, .int sg)]) hx hb dX1_combine_4 hl (by decide) rfl (fun ls hl => ?_)
  have hM' : xW D vwCl N0 (xset M out (xI (kA 0) n f0)) s.heap := by rw [xset_id h0]; exact hM
  refine lp_combine C h0 h1 h2 n1 n2 hσ hs hn (fun f cy H locs ls hnf hI c1 c2 hM hS hl => ?_) n 0 f0 0 s.heap [] ls (by omega) (fun j hj => rfl) (fun j hj => by omega) (by simp [V_0]) (by decide) (by decide) hM' hS (lv_sub hl [0, 1, 2, 3, 4, 5] rfl)
  refine lv_lload hx hb dX1_combine_56 (lv_at hl 0 rfl) ?_
  exact r_lret C hM hS (⟨f, rfl, hnf, hI, c1, c2⟩) dX1_combine_58
end N2
