theorem in_X3_invert_X3 : ∀ w ∈ wsX30, w ∈ wsX3_invert := by decide +kernel
theorem V_set {f : Nat → Int32} {n : Nat} {v : Int32} (hn : 0 < n) (h0 : f 0 = v) (hz : ∀ j, 0 < j → j < n → f j = 0) : V f n = dg v := by
  rw [V_top (k := 1) hn (fun j a b => hz j (by omega) b), V_s, V_0, h0, Nat.pow_zero, Nat.mul_one, Nat.zero_add]
theorem nn_set {f : Nat → Int32} {n : Nat} {v : Int32} (hv : 0 ≤ v.toInt) (h0 : f 0 = v) (hz : ∀ j, 0 < j → j < n → f j = 0) : nn f n := by
  intro j hj
  by_cases h : j = 0
  · rw [h, h0]; exact hv
  · rw [hz j (by omega) hj]; decide
theorem bl_1 {n : Nat} : bl n = 1 ↔ n = 1 := by
  constructor
  · intro h
    have h1 := bl_hi n
    rw [h] at h1
    rcases Nat.eq_zero_or_pos n with h2 | h2
    · rw [h2, bl_0] at h; omega
    · omega
  · intro h; rw [h]; decide
/-- the four rows of Euclid's way: which is which -/
def eu4 (r a b c d : Nat) : Prop := (a = r + 5 ∧ b = r + 6 ∧ c = r + 7 ∧ d = r + 8) ∨ (a = r + 6 ∧ b = r + 5 ∧ c = r + 8 ∧ d = r + 7)
section R6
variable {p : Program} {l : Launch} {e : Env} {R : Room} {s : State} {m : MethodId} {args : Array Value} {below : List Frame} {meth : Method} {c : Code} {Q : State → Prop} {cells slots : Nat} {ret : Option FieldType} {D : va_G} {kA : Nat → ClassId} {N0 : Nat}
set_option maxRecDepth 100000 in
theorem lp_invert {M0 : xM} {r out L mm a0 : Nat} (C : xC p s m args meth c cX3_invert 11 ret RX3 wsX3_invert D vwCl (xT kA) N0) (hmm : mm < BB ^ L) (hL : L < 40)
    (hexit : ∀ (M : xM) (a b c9 d rr ff gg ng : Nat) (H : Heap) (locs : List Loc) (ls : Array Slot), eu4 r a b c9 d → isN kA M a L rr → isN kA M b L 0 → isN kA M c9 L ff → isN kA M d L gg → euI mm a0 rr 0 ff gg (decide (ng = 1)) → (ng = 0 ∨ ng = 1) → (mm = 1 → ng = 1) → (∀ z, z < r + 5 ∨ r + 8 < z → M z = M0 z) → xW D vwCl N0 M H → va_S (xA N0) s.heap H locs → lv_has ls 11 [(7, .int (nI ng)), (3, .ref a), (4, .ref b), (5, .ref c9), (6, .ref d), (0, .ref r), (1, .ref out)] → W p l e (xR 3) s m args below meth c H locs 0 0 Q (F0 m 146 ls [])) :
    ∀ (k : Nat) (M : xM) (a b c9 d rr nx ff gg ng st : Nat) (H : Heap) (locs : List Loc) (ls : Array Slot), euM rr nx < k → st + k ≤ 5000 → eu4 r a b c9 d → isN kA M a L rr → isN kA M b L nx → isN kA M c9 L ff → isN kA M d L gg → euI mm a0 rr nx ff gg (decide (ng = 1)) → (ng = 0 ∨ ng = 1) → (mm = 1 → nx = 0 ∧ ng = 1) → (∀ z, z < r + 5 ∨ r + 8 < z → M z = M0 z) → xW D vwCl N0 M H → va_S (xA N0) s.heap H locs → lv_has ls 11 [(8, .int (nI st)), (7, .int (nI ng)), (3, .ref a), (4, .ref b), (5, .ref c9), (6, .ref d), (0, .ref r), (1, .ref out)] → W p l e (xR 3) s m args below meth c H locs 0 0 Q (F0 m 55 ls []) := by
  obtain ⟨hx, hb, hml, hown, hts, hr, hlocks, hK, hN⟩ := id C
  intro k
  induction k with
  | zero => intro M a b c9 d rr nx ff gg ng st H locs ls hk; omega
  | succ k ih =>
    intro M a b c9 d rr nx ff gg ng st H locs ls hk hst h4 ha hb2 hc9 hd9 hI hng h1m hfr hM hS hl
    have hb3 := hb2
    have ha3 := ha
    obtain ⟨fb, hb4, nb, Vb⟩ := hb2
    obtain ⟨fa, ha4, na, Va⟩ := ha
    refine lv_iload hx hb dX3_invert_55 (lv_at hl 0 rfl) ?_
    refine lv_sipush (v := nI 5000) hx hb dX3_invert_57 (by decide) ?_
    refine r_icmp_geN (tgt := 146) C (by omega) (by omega) dX3_invert_60 (by decide) (fun hc => ?_) (fun hc => ?_)
    · omega
    · refine lv_aload hx hb dX3_invert_63 (lv_at hl 3 rfl) ?_
      refine r_Si (As := [.ref b]) (rest := []) C hM hS (c_isZero l D kA N0 M b L fb hb4 nb (by omega)) gX3_invert_X1_isZero rfl rfl rfl ⟨by decide +kernel, by decide +kernel, (by decide +kernel : (parseMethodDescriptor yX1_isZero.desc).map (fun d => d.parameters.length) = some 1)⟩ ⟨Nat.le_of_ble_eq_true rfl, Nat.le_of_ble_eq_true rfl⟩ hl.1 rfl (Nat.le_of_ble_eq_true rfl) dX3_invert_65 ⟨Nat.le_of_ble_eq_true rfl, Nat.le_of_ble_eq_true rfl⟩ (fun q M1 H locs hp hM hS => ?_)
      obtain ⟨eM, hq⟩ := hp
      rw [eM] at hM
      rw [Vb] at hq
      refine lv_if_ne (tgt := 146) hx hb dX3_invert_68 (by decide) (fun hz => ?_) (fun hz => ?_)
      · have hn0 : nx = 0 := by
          rcases hq with ⟨-, h⟩ | ⟨h, -⟩
          · exact h
          · exact absurd h hz
        rw [hn0] at hb3 hI
        exact hexit M a b c9 d rr ff gg ng H locs ls h4 ha3 hb3 hc9 hd9 hI hng (fun h => (h1m h).2) hfr hM hS (lv_sub hl [1, 2, 3, 4, 5, 6, 7] rfl)
      · have hnpos : 0 < nx := by
          rcases hq with ⟨h, -⟩ | ⟨-, h⟩
          · rw [h] at hz; exact absurd hz (by decide)
          · exact h
        have hm1 : mm ≠ 1 := fun h => by have := (h1m h).1; omega
        refine lv_aload_n hx hb dX3_invert_71 rfl (lv_at hl 2 rfl) ?_
        refine lv_aload hx hb dX3_invert_72 (lv_at hl 3 rfl) ?_
        refine r_Si (As := [.ref a, .ref b]) (rest := []) C hM hS (c_gapBetween l D kA N0 M a b L fa fb ha4 hb4 na nb (by rw [Vb]; exact hnpos) (by omega)) gX3_invert_X1_gapBetween rfl rfl rfl ⟨by decide +kernel, by decide +kernel, (by decide +kernel : (parseMethodDescriptor yX1_gapBetween.desc).map (fun d => d.parameters.length) = some 2)⟩ ⟨Nat.le_of_ble_eq_true rfl, Nat.le_of_ble_eq_true rfl⟩ hl.1 rfl (Nat.le_of_ble_eq_true rfl) dX3_invert_74 ⟨Nat.le_of_ble_eq_true rfl, Nat.le_of_ble_eq_true rfl⟩ (fun g M1 H locs hp hM hS => ?_)
        obtain ⟨eM2, hg⟩ := hp
        rw [eM2] at hM
        rw [Va, Vb] at hg
        refine lv_istore (lv' := [(9, .int g), (8, .int (nI st)), (7, .int (nI ng)), (3, .ref a), (4, .ref b), (5, .ref c9), (6, .ref d), (0, .ref r), (1, .ref out)]) hx hb dX3_invert_77 hl (by decide) rfl (fun ls hl => ?_)
        refine lv_iload hx hb dX3_invert_79 (lv_at hl 0 rfl) ?_
        refine lv_if_lt (tgt := 106) hx hb dX3_invert_81 (by decide) (fun hneg => ?_) (fun hneg => ?_)
        · have hlt : rr < nx := by
            rcases hg with ⟨-, h⟩ | ⟨j, h, -, -, h3⟩
            · exact h
            · rw [h] at hneg
              exact absurd hneg (nI_pos (by omega))
          clear hg
          refine lv_aload_n hx hb dX3_invert_106 rfl (lv_at hl 3 rfl) ?_
          refine lv_astore (lv' := [(10, .ref a), (9, .int g), (8, .int (nI st)), (7, .int (nI ng)), (3, .ref a), (4, .ref b), (5, .ref c9), (6, .ref d), (0, .ref r), (1, .ref out)]) hx hb dX3_invert_107 hl (by decide) rfl (fun ls hl => ?_)
          refine lv_aload hx hb dX3_invert_109 (lv_at hl 5 rfl) ?_
          refine lv_astore_n (lv' := [(3, .ref b), (10, .ref a), (9, .int g), (8, .int (nI st)), (7, .int (nI ng)), (4, .ref b), (5, .ref c9), (6, .ref d), (0, .ref r), (1, .ref out)]) hx hb dX3_invert_111 rfl hl (by decide) rfl (fun ls hl => ?_)
          refine lv_aload hx hb dX3_invert_112 (lv_at hl 1 rfl) ?_
          refine lv_astore (lv' := [(4, .ref a), (3, .ref b), (10, .ref a), (9, .int g), (8, .int (nI st)), (7, .int (nI ng)), (5, .ref c9), (6, .ref d), (0, .ref r), (1, .ref out)]) hx hb dX3_invert_114 hl (by decide) rfl (fun ls hl => ?_)
          refine lv_aload hx hb dX3_invert_116 (lv_at hl 6 rfl) ?_
          refine lv_astore (lv' := [(10, .ref c9), (4, .ref a), (3, .ref b), (9, .int g), (8, .int (nI st)), (7, .int (nI ng)), (5, .ref c9), (6, .ref d), (0, .ref r), (1, .ref out)]) hx hb dX3_invert_118 hl (by decide) rfl (fun ls hl => ?_)
          refine lv_aload hx hb dX3_invert_120 (lv_at hl 7 rfl) ?_
          refine lv_astore (lv' := [(5, .ref d), (10, .ref c9), (4, .ref a), (3, .ref b), (9, .int g), (8, .int (nI st)), (7, .int (nI ng)), (6, .ref d), (0, .ref r), (1, .ref out)]) hx hb dX3_invert_122 hl (by decide) rfl (fun ls hl => ?_)
          refine lv_aload hx hb dX3_invert_124 (lv_at hl 1 rfl) ?_
          refine lv_astore (lv' := [(6, .ref c9), (5, .ref d), (10, .ref c9), (4, .ref a), (3, .ref b), (9, .int g), (8, .int (nI st)), (7, .int (nI ng)), (0, .ref r), (1, .ref out)]) hx hb dX3_invert_126 hl (by decide) rfl (fun ls hl => ?_)
          refine lv_iload hx hb dX3_invert_128 (lv_at hl 7 rfl) ?_
          refine r_if_neN (tgt := 137) C (by omega) dX3_invert_130 (by decide) (fun hn => ?_) (fun hn => ?_)
          · refine lv_iconst (v := nI 0) hx hb dX3_invert_137 (by decide) ?_
            refine lv_istore (lv' := [(7, .int (nI 0)), (6, .ref c9), (5, .ref d), (10, .ref c9), (4, .ref a), (3, .ref b), (9, .int g), (8, .int (nI st)), (0, .ref r), (1, .ref out)]) hx hb dX3_invert_138 hl (by decide) rfl (fun ls hl => ?_)
            refine lv_iinc (v := nI (st + 1)) (lv' := [(8, .int (nI (st + 1))), (7, .int (nI 0)), (6, .ref c9), (5, .ref d), (10, .ref c9), (4, .ref a), (3, .ref b), (9, .int g), (0, .ref r), (1, .ref out)]) hx hb dX3_invert_140 hl (k := 7) rfl (r_inc _) (by decide) rfl (fun ls hl => ?_)
            refine lv_goto (tgt := 55) hx hb dX3_invert_143 (by decide) ?_
            have hng1 : ng = 1 := by omega
            rw [hng1] at hI
            exact ih M b a d c9 nx rr gg ff 0 (st + 1) H locs ls (by have := euM_swap hlt; omega) (by omega) (by unfold eu4 at h4 ⊢; omega) hb3 ha3 hd9 hc9 (by simpa using euI_swap hI) (Or.inl rfl) (fun h => absurd h hm1) hfr hM hS (lv_sub hl [0, 1, 6, 5, 3, 2, 8, 9] rfl)
          · refine lv_iconst (v := nI 1) hx hb dX3_invert_133 (by decide) ?_
            refine lv_goto (tgt := 138) hx hb dX3_invert_134 (by decide) ?_
            refine lv_istore (lv' := [(7, .int (nI 1)), (6, .ref c9), (5, .ref d), (10, .ref c9), (4, .ref a), (3, .ref b), (9, .int g), (8, .int (nI st)), (0, .ref r), (1, .ref out)]) hx hb dX3_invert_138 hl (by decide) rfl (fun ls hl => ?_)
            refine lv_iinc (v := nI (st + 1)) (lv' := [(8, .int (nI (st + 1))), (7, .int (nI 1)), (6, .ref c9), (5, .ref d), (10, .ref c9), (4, .ref a), (3, .ref b), (9, .int g), (0, .ref r), (1, .ref out)]) hx hb dX3_invert_140 hl (k := 7) rfl (r_inc _) (by decide) rfl (fun ls hl => ?_)
            refine lv_goto (tgt := 55) hx hb dX3_invert_143 (by decide) ?_
            have hng0 : ng = 0 := by omega
            rw [hng0] at hI
            exact ih M b a d c9 nx rr gg ff 1 (st + 1) H locs ls (by have := euM_swap hlt; omega) (by omega) (by unfold eu4 at h4 ⊢; omega) hb3 ha3 hd9 hc9 (by simpa using euI_swap hI) (Or.inr rfl) (fun h => absurd h hm1) hfr hM hS (lv_sub hl [0, 1, 6, 5, 3, 2, 8, 9] rfl)
        · obtain ⟨j, rfl, hg1, hg2, hg3⟩ : ∃ j, g = nI j ∧ 2 ^ j * nx ≤ rr ∧ rr < 2 ^ (j + 1) * nx ∧ j ≤ 31 * L := by
            rcases hg with ⟨h, -⟩ | h
            · exact absurd h hneg
            · exact h
          clear hg
          have hrl : rr < BB ^ L := by rw [← Va]; exact V_lt fa L
          refine lv_aload_n hx hb dX3_invert_84 rfl (lv_at hl 3 rfl) ?_
          refine lv_aload hx hb dX3_invert_85 (lv_at hl 4 rfl) ?_
          refine lv_iload hx hb dX3_invert_87 (lv_at hl 0 rfl) ?_
          refine lv_iconst (v := (-1)) hx hb dX3_invert_89 (by decide) ?_
          have hfit : shV fb (j / 31) (j % 31) L = nx * 2 ^ j := by
            rw [← Vb]
            exact shV_fit (by rw [Vb, Nat.mul_comm]; omega)
          refine r_Sv (As := [.ref a, .ref b, .int (nI j), .int (-1)]) (rest := []) C hM hS (c_addShifted l D kA N0 M a b L j fa fb (-1) (-1) ha4 hb4 (by unfold eu4 at h4; omega) na nb (by decide) (Or.inr rfl) (by omega) (by omega)) gX3_invert_X1_addShifted rfl rfl rfl ⟨by decide +kernel, by decide +kernel, (by decide +kernel : (parseMethodDescriptor yX1_addShifted.desc).map (fun d => d.parameters.length) = some 4)⟩ ⟨Nat.le_of_ble_eq_true rfl, Nat.le_of_ble_eq_true rfl⟩ hl.1 rfl (Nat.le_of_ble_eq_true rfl) dX3_invert_90 ⟨Nat.le_of_ble_eq_true rfl, Nat.le_of_ble_eq_true rfl⟩ (fun M1 H locs hp hM hS => ?_)
          obtain ⟨fa', cy, rfl, na', hI1⟩ := hp
          rw [hfit, Va] at hI1
          have hVa : V fa' L = rr - 2 ^ j * nx := fit_mod hI1 (V_lt fa' L) (by rw [Nat.mul_comm nx]; omega) (by omega)
          have hIn := euI_sub hnpos hg1 hI
          obtain ⟨fc, hc4, nc, Vc⟩ := hc9
          obtain ⟨fg, hd4, ngg, Vd⟩ := hd9
          have hgl : gg * 2 ^ j < BB ^ L := by
            have := hIn.2.1
            rw [Nat.mul_comm]
            omega
          have hfit2 : shV fg (j / 31) (j % 31) L = gg * 2 ^ j := by
            rw [← Vd]
            exact shV_fit (by rw [Vd]; exact hgl)
          refine lv_aload hx hb dX3_invert_93 (lv_at hl 5 rfl) ?_
          refine lv_aload hx hb dX3_invert_95 (lv_at hl 6 rfl) ?_
          refine lv_iload hx hb dX3_invert_97 (lv_at hl 0 rfl) ?_
          refine lv_iconst (v := nI 1) hx hb dX3_invert_99 (by decide) ?_
          refine r_Sv (As := [.ref c9, .ref d, .int (nI j), .int (nI 1)]) (rest := []) C hM hS (c_addShifted l D kA N0 (xset M a (xI (kA 0) L fa')) c9 d L j fc fg (nI 1) 1 (by rw [xset_n (by unfold eu4 at h4; omega)]; exact hc4) (by rw [xset_n (by unfold eu4 at h4; omega)]; exact hd4) (by unfold eu4 at h4; omega) nc ngg (by decide) (Or.inl rfl) (by omega) (by omega)) gX3_invert_X1_addShifted rfl rfl rfl ⟨by decide +kernel, by decide +kernel, (by decide +kernel : (parseMethodDescriptor yX1_addShifted.desc).map (fun d => d.parameters.length) = some 4)⟩ ⟨Nat.le_of_ble_eq_true rfl, Nat.le_of_ble_eq_true rfl⟩ hl.1 rfl (Nat.le_of_ble_eq_true rfl) dX3_invert_100 ⟨Nat.le_of_ble_eq_true rfl, Nat.le_of_ble_eq_true rfl⟩ (fun M1 H locs hp hM hS => ?_)
          obtain ⟨fc', cy2, rfl, nc', hI2⟩ := hp
          rw [hfit2, Vc, Int.one_mul] at hI2
          have hfl := hIn.2.1
          have hVc : V fc' L = ff + 2 ^ j * gg := fit_mod hI2 (V_lt fc' L) (by rw [Nat.mul_comm gg]; omega) (by omega)
          refine lv_goto (tgt := 140) hx hb dX3_invert_103 (by decide) ?_
          refine lv_iinc (v := nI (st + 1)) (lv' := [(8, .int (nI (st + 1))), (9, .int (nI j)), (7, .int (nI ng)), (3, .ref a), (4, .ref b), (5, .ref c9), (6, .ref d), (0, .ref r), (1, .ref out)]) hx hb dX3_invert_140 hl (k := 1) rfl (r_inc _) (by decide) rfl (fun ls hl => ?_)
          refine lv_goto (tgt := 55) hx hb dX3_invert_143 (by decide) ?_
          have hmeas := euM_sub hnpos hg1 hg2
          refine ih (xset (xset M a (xI (kA 0) L fa')) c9 (xI (kA 0) L fc')) a b c9 d (rr - 2 ^ j * nx) nx (ff + 2 ^ j * gg) gg ng (st + 1) H locs ls (by omega) (by omega) h4 ⟨fa', ?_, na', hVa⟩ ⟨fb, ?_, nb, Vb⟩ ⟨fc', xset_s, nc', hVc⟩ ⟨fg, ?_, ngg, Vd⟩ hIn hng (fun h => absurd h hm1) (fun z hz => ?_) hM hS (lv_sub hl [0, 2, 3, 4, 5, 6, 7, 8] rfl)
          · rw [xset_n (by unfold eu4 at h4; omega), xset_s]
          · rw [xset_n (by unfold eu4 at h4; omega), xset_n (by unfold eu4 at h4; omega)]; exact hb4
          · rw [xset_n (by unfold eu4 at h4; omega), xset_n (by unfold eu4 at h4; omega)]; exact hd4
          · rw [xset_n (by unfold eu4 at h4; omega), xset_n (by unfold eu4 at h4; omega)]; exact hfr z hz
set_option maxRecDepth 100000 in
theorem c_invert (l : Launch) (D : va_G) (kA : Nat → ClassId) (N0 : Nat) (M : xM) (r L mm out num a0 : Nat) (sz sh : Int32) (hob : M r = some (oRes r sz sh)) (hmm : isN kA M (r + 1) L mm) (k5 : isA kA M (r + 5) L) (k6 : isA kA M (r + 6) L) (k7 : isA kA M (r + 7) L) (k8 : isA kA M (r + 8) L) (h0 : isA kA M out L) (h1 : isN kA M num L a0) (ha : a0 < mm) (ho1 : out ≠ r + 1) (ho2 : out < r + 5 ∨ r + 8 < out) (hq2 : num < r + 5 ∨ r + 8 < num) (hL : L < 40) : cI l yX3_invert wsX3_invert (xR 3) [.ref r, .ref out, .ref num] D kA N0 M (fun q M1 => isA kA M1 (r + 5) L ∧ isA kA M1 (r + 6) L ∧ isA kA M1 (r + 7) L ∧ isA kA M1 (r + 8) L ∧ (∀ z, z < r + 5 ∨ r + 8 < z → z ≠ out → M1 z = M z) ∧ ((q = 0 ∧ inv? mm a0 = none ∧ M1 out = M out) ∨ (q = 1 ∧ ∃ y, inv? mm a0 = some y ∧ isN kA M1 out L y))) := by
  have hmlt := hmm.lt
  have hro := h0.ne hob
  obtain ⟨fm, hm, nm, Vm⟩ := hmm
  obtain ⟨f5, k5⟩ := k5
  obtain ⟨f6, k6⟩ := k6
  obtain ⟨f7, k7⟩ := k7
  obtain ⟨f8, k8⟩ := k8
  obtain ⟨fn, h1, n1, V1⟩ := h1
  have hL0 : 0 < L := by
    rcases Nat.eq_zero_or_pos L with h | h
    · rw [h, Nat.pow_zero] at hmlt; omega
    · exact h
  refine r_met (cc := cX3_invert) (maxL := 11) (ret := (some .boolean)) (by decide) rfl (Nat.le_of_ble_eq_true rfl) ?_
  intro p e s m below meth c ls C hM hnm hl
  obtain ⟨hx, hb, hml, hown, hts, hr, hlocks, hK, hN⟩ := id C
  have hS : va_S (xA N0) s.heap s.heap [] := va_S.rf
  have hl : lv_has ls 11 [(0, .ref r), (1, .ref out), (2, .ref num)] := hl
  refine lv_aload_n hx hb dX3_invert_0 rfl (lv_at hl 0 rfl) ?_
  refine x_get (v := .ref (r + 5)) hx hb hts in_X3_invert_X3 hown hK hM (hob) rfl 4 (by decide) (hts (.fieldLink RX3 24 "LimbCurves$Residues" "firstRest" "[I") (by decide +kernel)) (fun _ h9 => h9) rfl dX3_invert_1 ?_
  refine lv_astore_n (lv' := [(3, .ref (r + 5)), (0, .ref r), (1, .ref out), (2, .ref num)]) hx hb dX3_invert_4 rfl hl (by decide) rfl (fun ls hl => ?_)
  refine lv_aload_n hx hb dX3_invert_5 rfl (lv_at hl 1 rfl) ?_
  refine x_get (v := .ref (r + 6)) hx hb hts in_X3_invert_X3 hown hK hM (hob) rfl 5 (by decide) (hts (.fieldLink RX3 27 "LimbCurves$Residues" "secondRest" "[I") (by decide +kernel)) (fun _ h9 => h9) rfl dX3_invert_6 ?_
  refine lv_astore (lv' := [(4, .ref (r + 6)), (3, .ref (r + 5)), (0, .ref r), (1, .ref out), (2, .ref num)]) hx hb dX3_invert_9 hl (by decide) rfl (fun ls hl => ?_)
  refine lv_aload_n hx hb dX3_invert_11 rfl (lv_at hl 2 rfl) ?_
  refine x_get (v := .ref (r + 7)) hx hb hts in_X3_invert_X3 hown hK hM (hob) rfl 6 (by decide) (hts (.fieldLink RX3 30 "LimbCurves$Residues" "firstFactor" "[I") (by decide +kernel)) (fun _ h9 => h9) rfl dX3_invert_12 ?_
  refine lv_astore (lv' := [(5, .ref (r + 7)), (4, .ref (r + 6)), (3, .ref (r + 5)), (0, .ref r), (1, .ref out), (2, .ref num)]) hx hb dX3_invert_15 hl (by decide) rfl (fun ls hl => ?_)
  refine lv_aload_n hx hb dX3_invert_17 rfl (lv_at hl 3 rfl) ?_
  refine x_get (v := .ref (r + 8)) hx hb hts in_X3_invert_X3 hown hK hM (hob) rfl 7 (by decide) (hts (.fieldLink RX3 33 "LimbCurves$Residues" "secondFactor" "[I") (by decide +kernel)) (fun _ h9 => h9) rfl dX3_invert_18 ?_
  refine lv_astore (lv' := [(6, .ref (r + 8)), (5, .ref (r + 7)), (4, .ref (r + 6)), (3, .ref (r + 5)), (0, .ref r), (1, .ref out), (2, .ref num)]) hx hb dX3_invert_21 hl (by decide) rfl (fun ls hl => ?_)
  refine lv_aload_n hx hb dX3_invert_23 rfl (lv_at hl 3 rfl) ?_
  refine lv_aload_n hx hb dX3_invert_24 rfl (lv_at hl 4 rfl) ?_
  refine x_get (v := .ref (r + 1)) hx hb hts in_X3_invert_X3 hown hK hM (hob) rfl 0 (by decide) (hts (.fieldLink RX3 9 "LimbCurves$Residues" "modulus" "[I") (by decide +kernel)) (fun _ h9 => h9) rfl dX3_invert_25 ?_
  refine r_Sv (As := [.ref (r + 5), .ref (r + 1)]) (rest := []) C hM hS (c_copy l D kA N0 M (r + 5) (r + 1) L f5 fm k5 hm (by omega)) gX3_invert_X1_copy rfl rfl rfl ⟨by decide +kernel, by decide +kernel, (by decide +kernel : (parseMethodDescriptor yX1_copy.desc).map (fun d => d.parameters.length) = some 2)⟩ ⟨Nat.le_of_ble_eq_true rfl, Nat.le_of_ble_eq_true rfl⟩ hl.1 rfl (Nat.le_of_ble_eq_true rfl) dX3_invert_28 ⟨Nat.le_of_ble_eq_true rfl, Nat.le_of_ble_eq_true rfl⟩ (fun M1 H locs hp hM hS => ?_)
  obtain ⟨g5, rfl, e5⟩ := hp
  refine lv_aload hx hb dX3_invert_31 (lv_at hl 2 rfl) ?_
  refine lv_aload_n hx hb dX3_invert_33 rfl (lv_at hl 6 rfl) ?_
  refine r_Sv (As := [.ref (r + 6), .ref num]) (rest := []) C hM hS (c_copy l D kA N0 (xset M (r + 5) (xI (kA 0) L g5)) (r + 6) num L f6 fn (by rw [xset_n (by omega)]; exact k6) (by rw [xset_n (by omega)]; exact h1) (by omega)) gX3_invert_X1_copy rfl rfl rfl ⟨by decide +kernel, by decide +kernel, (by decide +kernel : (parseMethodDescriptor yX1_copy.desc).map (fun d => d.parameters.length) = some 2)⟩ ⟨Nat.le_of_ble_eq_true rfl, Nat.le_of_ble_eq_true rfl⟩ hl.1 rfl (Nat.le_of_ble_eq_true rfl) dX3_invert_34 ⟨Nat.le_of_ble_eq_true rfl, Nat.le_of_ble_eq_true rfl⟩ (fun M1 H locs hp hM hS => ?_)
  obtain ⟨g6, rfl, e6⟩ := hp
  refine lv_aload hx hb dX3_invert_37 (lv_at hl 1 rfl) ?_
  refine lv_iconst (v := nI 0) hx hb dX3_invert_39 (by decide) ?_
  refine r_Sv (As := [.ref (r + 7), .int (nI 0)]) (rest := []) C hM hS (c_set l D kA N0 (xset (xset M (r + 5) (xI (kA 0) L g5)) (r + 6) (xI (kA 0) L g6)) (r + 7) L f7 (nI 0) (by rw [xset_n (by omega), xset_n (by omega)]; exact k7) hL0 (by omega)) gX3_invert_X1_set rfl rfl rfl ⟨by decide +kernel, by decide +kernel, (by decide +kernel : (parseMethodDescriptor yX1_set.desc).map (fun d => d.parameters.length) = some 2)⟩ ⟨Nat.le_of_ble_eq_true rfl, Nat.le_of_ble_eq_true rfl⟩ hl.1 rfl (Nat.le_of_ble_eq_true rfl) dX3_invert_40 ⟨Nat.le_of_ble_eq_true rfl, Nat.le_of_ble_eq_true rfl⟩ (fun M1 H locs hp hM hS => ?_)
  obtain ⟨g7, rfl, a7, b7⟩ := hp
  refine lv_aload hx hb dX3_invert_43 (lv_at hl 0 rfl) ?_
  refine lv_iconst (v := nI 1) hx hb dX3_invert_45 (by decide) ?_
  refine r_Sv (As := [.ref (r + 8), .int (nI 1)]) (rest := []) C hM hS (c_set l D kA N0 (xset (xset (xset M (r + 5) (xI (kA 0) L g5)) (r + 6) (xI (kA 0) L g6)) (r + 7) (xI (kA 0) L g7)) (r + 8) L f8 (nI 1) (by rw [xset_n (by omega), xset_n (by omega), xset_n (by omega)]; exact k8) hL0 (by omega)) gX3_invert_X1_set rfl rfl rfl ⟨by decide +kernel, by decide +kernel, (by decide +kernel : (parseMethodDescriptor yX1_set.desc).map (fun d => d.parameters.length) = some 2)⟩ ⟨Nat.le_of_ble_eq_true rfl, Nat.le_of_ble_eq_true rfl⟩ hl.1 rfl (Nat.le_of_ble_eq_true rfl) dX3_invert_46 ⟨Nat.le_of_ble_eq_true rfl, Nat.le_of_ble_eq_true rfl⟩ (fun M1 H locs hp hM hS => ?_)
  obtain ⟨g8, rfl, a8, b8⟩ := hp
  refine lv_iconst (v := nI 1) hx hb dX3_invert_49 (by decide) ?_
  refine lv_istore (lv' := [(7, .int (nI 1)), (6, .ref (r + 8)), (5, .ref (r + 7)), (4, .ref (r + 6)), (3, .ref (r + 5)), (0, .ref r), (1, .ref out), (2, .ref num)]) hx hb dX3_invert_50 hl (by decide) rfl (fun ls hl => ?_)
  refine lv_iconst (v := nI 0) hx hb dX3_invert_52 (by decide) ?_
  refine lv_istore (lv' := [(8, .int (nI 0)), (7, .int (nI 1)), (6, .ref (r + 8)), (5, .ref (r + 7)), (4, .ref (r + 6)), (3, .ref (r + 5)), (0, .ref r), (1, .ref out), (2, .ref num)]) hx hb dX3_invert_53 hl (by decide) rfl (fun ls hl => ?_)
  obtain ⟨M4, hM4⟩ : ∃ M4, M4 = xset (xset (xset (xset M (r + 5) (xI (kA 0) L g5)) (r + 6) (xI (kA 0) L g6)) (r + 7) (xI (kA 0) L g7)) (r + 8) (xI (kA 0) L g8) := ⟨_, rfl⟩
  rw [← hM4] at hM
  have c5 : isN kA M4 (r + 5) L mm := ⟨g5, by rw [hM4, xset_n (by omega), xset_n (by omega), xset_n (by omega), xset_s], fun j hj => by rw [e5 j hj]; exact nm j hj, by rw [V_congr e5]; exact Vm⟩
  have c6 : isN kA M4 (r + 6) L a0 := ⟨g6, by rw [hM4, xset_n (by omega), xset_n (by omega), xset_s], fun j hj => by rw [e6 j hj]; exact n1 j hj, by rw [V_congr e6]; exact V1⟩
  have c7 : isN kA M4 (r + 7) L 0 := ⟨g7, by rw [hM4, xset_n (by omega), xset_s], nn_set (by decide) a7 b7, by rw [V_set hL0 a7 b7]; rfl⟩
  have c8 : isN kA M4 (r + 8) L 1 := ⟨g8, by rw [hM4, xset_s], nn_set (by decide) a8 b8, by rw [V_set hL0 a8 b8]; rfl⟩
  have cfr : ∀ z, z < r + 5 ∨ r + 8 < z → M4 z = M z := fun z hz => by rw [hM4, xset_n (by omega), xset_n (by omega), xset_n (by omega), xset_n (by omega)]
  have hb1 : bl mm ≤ 31 * L := bl_le (by rw [← BB_two]; exact hmlt)
  have hb2 : bl a0 ≤ 31 * L := bl_le (by rw [← BB_two]; omega)
  have hmeas : euM mm a0 < 5000 := by
    unfold euM
    rw [if_neg (by omega)]
    omega
  refine lp_invert (M0 := M) (a0 := a0) (out := out) C hmlt hL (fun M5 a b c9 d rr ff gg ng H locs ls h4 ha5 hb5 hc5 hd5 hI hng h1m hfr hM hS hl => ?_) 5000 M4 (r + 5) (r + 6) (r + 7) (r + 8) mm a0 0 1 1 0 H _ ls hmeas (by omega) (Or.inl ⟨rfl, rfl, rfl, rfl⟩) c5 c6 c7 c8 (euI_0 (by omega)) (Or.inr rfl) (fun h => ⟨by omega, rfl⟩) cfr hM hS (lv_sub hl [0, 1, 5, 4, 3, 2, 6, 7] rfl)
  have hrows : ∀ M6 : xM, (∀ z, z ≠ out → M6 z = M5 z) → isA kA M6 (r + 5) L ∧ isA kA M6 (r + 6) L ∧ isA kA M6 (r + 7) L ∧ isA kA M6 (r + 8) L := by
    intro M6 h6
    have k1 : isA kA M6 a L := ha5.isA.kept (h6 _ (by unfold eu4 at h4; omega))
    have k2 : isA kA M6 b L := hb5.isA.kept (h6 _ (by unfold eu4 at h4; omega))
    have k3 : isA kA M6 c9 L := hc5.isA.kept (h6 _ (by unfold eu4 at h4; omega))
    have k4 : isA kA M6 d L := hd5.isA.kept (h6 _ (by unfold eu4 at h4; omega))
    rcases h4 with ⟨rfl, rfl, rfl, rfl⟩ | ⟨rfl, rfl, rfl, rfl⟩
    · exact ⟨k1, k2, k3, k4⟩
    · exact ⟨k2, k1, k4, k3⟩
  have ha6 := ha5
  obtain ⟨fa, ha7, na, Va⟩ := ha5
  have hob5 : M5 r = some (oRes r sz sh) := by rw [hfr r (by omega)]; exact hob
  have hmm5 : isN kA M5 (r + 1) L mm := isN.kept ⟨fm, hm, nm, Vm⟩ (hfr _ (by omega))
  have h05 : isA kA M5 out L := h0.kept (hfr _ ho2)
  refine lv_aload_n hx hb dX3_invert_146 rfl (lv_at hl 1 rfl) ?_
  refine r_Si (As := [.ref a]) (rest := []) C hM hS (c_bitsOf l D kA N0 M5 a L fa ha7 na (by omega)) gX3_invert_X1_bitsOf rfl rfl rfl ⟨by decide +kernel, by decide +kernel, (by decide +kernel : (parseMethodDescriptor yX1_bitsOf.desc).map (fun d => d.parameters.length) = some 1)⟩ ⟨Nat.le_of_ble_eq_true rfl, Nat.le_of_ble_eq_true rfl⟩ hl.1 rfl (Nat.le_of_ble_eq_true rfl) dX3_invert_147 ⟨Nat.le_of_ble_eq_true rfl, Nat.le_of_ble_eq_true rfl⟩ (fun q M6 H locs hp hM hS => ?_)
  obtain ⟨eM, rfl⟩ := hp
  rw [eM] at hM
  have hbv : bl (V fa L) ≤ 31 * L := bl_le (by rw [← BB_two]; exact V_lt fa L)
  refine lv_iconst (v := nI 1) hx hb dX3_invert_150 (by decide) ?_
  refine r_icmp_eqN (tgt := 156) C (by omega) (by omega) dX3_invert_151 (by decide) (fun hc => ?_) (fun hc => ?_)
  · rw [Va, bl_1] at hc
    rw [hc] at hI
    have hE := euI_end (by omega) ha hI
    refine lv_iload hx hb dX3_invert_156 (lv_at hl 0 rfl) ?_
    refine r_if_eqN (tgt := 173) C (by omega) dX3_invert_158 (by decide) (fun hn => ?_) (fun hn => ?_)
    · have hng0 : ng = 0 := hn
      rw [hng0] at hI hE h1m
      obtain ⟨fc, hc7, nc, Vc⟩ := hc5
      obtain ⟨fo, h06⟩ := h05
      refine lv_aload_n hx hb dX3_invert_173 rfl (lv_at hl 6 rfl) ?_
      refine lv_aload hx hb dX3_invert_174 (lv_at hl 3 rfl) ?_
      refine r_Sv (As := [.ref out, .ref c9]) (rest := []) C hM hS (c_copy l D kA N0 M5 out c9 L fo fc h06 hc7 (by omega)) gX3_invert_X1_copy rfl rfl rfl ⟨by decide +kernel, by decide +kernel, (by decide +kernel : (parseMethodDescriptor yX1_copy.desc).map (fun d => d.parameters.length) = some 2)⟩ ⟨Nat.le_of_ble_eq_true rfl, Nat.le_of_ble_eq_true rfl⟩ hl.1 rfl (Nat.le_of_ble_eq_true rfl) dX3_invert_176 ⟨Nat.le_of_ble_eq_true rfl, Nat.le_of_ble_eq_true rfl⟩ (fun M6 H locs hp hM hS => ?_)
      obtain ⟨g, rfl, eg⟩ := hp
      refine lv_iconst (v := nI 1) hx hb dX3_invert_179 (by decide) ?_
      have hr4 := hrows (xset M5 out (xI (kA 0) L g)) (fun z hz => xset_n hz)
      have hlt : ff < mm := by
        have h2 := hI.2.1
        rcases Nat.lt_or_ge ff mm with h | h
        · exact h
        · have h3 : ff = mm := by omega
          subst h3
          obtain ⟨w, hw⟩ := hI.2.2.2.2.1
          have h4 : euS (decide ((0 : Nat) = 1)) = 1 := rfl
          rw [h4, Int.one_mul] at hw
          have h5 : (ff : Int) ∣ 1 := ⟨w + a0, by rw [Int.mul_add, ← hw]; omega⟩
          have h6 : ff = 1 := Nat.dvd_one.mp (Int.ofNat_dvd.mp h5)
          have := h1m h6
          omega
      have hE2 : inv? mm a0 = some ff := by
        rw [hE]
        show some (ff % mm) = _
        rw [Nat.mod_eq_of_lt hlt]
      exact r_zret C hM hS rfl (⟨hr4.1, hr4.2.1, hr4.2.2.1, hr4.2.2.2, fun z hz hzo => by rw [xset_n hzo]; exact hfr z hz, Or.inr ⟨rfl, ff, hE2, g, xset_s, fun j hj => by rw [eg j hj]; exact nc j hj, by rw [V_congr eg]; exact Vc⟩⟩) dX3_invert_180
    · have hng1 : ng = 1 := by omega
      rw [hng1] at hI hE
      refine lv_aload_n hx hb dX3_invert_161 rfl (lv_at hl 5 rfl) ?_
      refine lv_aload_n hx hb dX3_invert_162 rfl (lv_at hl 6 rfl) ?_
      refine lv_aload hx hb dX3_invert_163 (lv_at hl 2 rfl) ?_
      refine lv_aload hx hb dX3_invert_165 (lv_at hl 3 rfl) ?_
      refine r_Vv (As := [.ref out, .ref b, .ref c9]) (rest := []) C hM hS (c_subtract l D kA N0 M5 r L mm out b c9 0 ff sz sh hob5 hmm5 h05 hb5 hc5 (by omega) hI.2.1 ho1 (by omega)) (hob5) rfl gX3_invert_X3_subtract rfl rfl rfl ⟨rfl, by decide +kernel, by decide +kernel, (by decide +kernel : (parseMethodDescriptor yX3_subtract.desc).map (fun d => d.parameters.length) = some 3)⟩ ⟨Nat.le_of_ble_eq_true rfl, Nat.le_of_ble_eq_true rfl⟩ hl.1 rfl (Nat.le_of_ble_eq_true rfl) dX3_invert_167 ⟨Nat.le_of_ble_eq_true rfl, Nat.le_of_ble_eq_true rfl⟩ (fun M6 H locs hp hM hS => ?_)
      obtain ⟨hres, hf6⟩ := hp
      have hr4 := hrows M6 hf6
      refine lv_goto (tgt := 179) hx hb dX3_invert_170 (by decide) ?_
      refine lv_iconst (v := nI 1) hx hb dX3_invert_179 (by decide) ?_
      have hE2 : inv? mm a0 = some ((0 + (mm - ff)) % mm) := by
        rw [hE]
        show some (if ff = 0 then 0 else mm - ff) = _
        by_cases h : ff = 0
        · rw [if_pos h, h]; simp
        · rw [if_neg h, Nat.zero_add, Nat.mod_eq_of_lt (by omega)]
      exact r_zret C hM hS rfl (⟨hr4.1, hr4.2.1, hr4.2.2.1, hr4.2.2.2, fun z hz hzo => by rw [hf6 z hzo]; exact hfr z hz, Or.inr ⟨rfl, _, hE2, hres⟩⟩) dX3_invert_180
  · rw [Va] at hc
    have hc1 : rr ≠ 1 := fun h => hc (bl_1.mpr h)
    have hE := euI_no hc1 hI (by omega)
    have hr4 := hrows M5 (fun z _ => rfl)
    refine lv_iconst (v := nI 0) hx hb dX3_invert_154 (by decide) ?_
    exact r_zret C hM hS rfl (⟨hr4.1, hr4.2.1, hr4.2.2.1, hr4.2.2.2, fun z hz _ => hfr z hz, Or.inl ⟨rfl, hE, hfr out ho2⟩⟩) dX3_invert_155
end R6
