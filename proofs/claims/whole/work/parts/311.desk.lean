-- THE DESK OF THE CLASS AT h
abbrev oLc (h : Nat) (L sl fd fl : Int32) : va_E := xO 4 [.int L, .ref (h + 1), .ref (h + 6), .ref (h + 31), .ref (h + 40), .ref (h + 58), .ref (h + 61), .ref (h + 71), .ref (h + 72), .ref (h + 73), .int sl, .int fd, .int fl]
def Dc (kA : Nat → ClassId) (M : xM) (h : Nat) (S : St) : Prop := M h = some (oLc h (nI S.L) (nI S.sealed) (fedV S) (nI S.fl)) ∧ (∃ f, M (h + 1) = some (xQ (kA 3) 4 f) ∧ ∀ i, i < 4 → f i = some (h + 2 + i)) ∧ (∃ f, M (h + 6) = some (xQ (kA 2) 8 f) ∧ ∀ i, i < 8 → f i = some (h + 7 + 3 * i)) ∧ (∃ f, M (h + 31) = some (xQ (kA 3) 8 f) ∧ ∀ i, i < 8 → f i = some (h + 32 + i)) ∧ (∀ s, s < 4 → isN kA M (h + 2 + s) S.L (S.a s)) ∧ (∀ s, 4 ≤ s → s < 12 → M ((h + 7 + 3 * (s - 4))) = some (oPt ((h + 7 + 3 * (s - 4))) (nI (1 - S.pr s))) ∧ isN kA M ((h + 7 + 3 * (s - 4)) + 1) S.L (S.a s) ∧ isN kA M ((h + 7 + 3 * (s - 4)) + 2) S.L (S.b s)) ∧ (∀ s, 12 ≤ s → s < 20 → isN kA M ((h + 32 + (s - 12))) S.L (S.a s))
def Ds (kA : Nat → ClassId) (M : xM) (h L sl pp : Nat) : Prop := Rk kA M (h + 40) L ∧ Rk kA M (h + 49) L ∧ M (h + 58) = some (oCv h) ∧ isA kA M (h + 59) L ∧ isA kA M (h + 60) L ∧ (∃ d : Nat, M (h + 61) = some (oRn h (nI d))) ∧ (∀ k, k < 9 → isA kA M (h + 62 + k) L) ∧ isA kA M (h + 71) L ∧ isA kA M (h + 72) L ∧ (∃ d, M (h + 73) = some (oPt (h + 73) d)) ∧ isA kA M (h + 74) L ∧ isA kA M (h + 75) L ∧ (sl = 1 → Rs kA M (h + 49) L pp)
section DKS
variable {kA : Nat → ClassId} {M M1 : xM} {h L sl pp : Nat} {S S' : St}
theorem Dc.ob (d : Dc kA M h S) : M h = some (oLc h (nI S.L) (nI S.sealed) (fedV S) (nI S.fl)) := d.1
theorem Dc.q1 (d : Dc kA M h S) : ∃ f, M (h + 1) = some (xQ (kA 3) 4 f) ∧ ∀ i, i < 4 → f i = some (h + 2 + i) := d.2.1
theorem Dc.q2 (d : Dc kA M h S) : ∃ f, M (h + 6) = some (xQ (kA 2) 8 f) ∧ ∀ i, i < 8 → f i = some (h + 7 + 3 * i) := d.2.2.1
theorem Dc.q3 (d : Dc kA M h S) : ∃ f, M (h + 31) = some (xQ (kA 3) 8 f) ∧ ∀ i, i < 8 → f i = some (h + 32 + i) := d.2.2.2.1
theorem Dc.pa (d : Dc kA M h S) {s : Nat} (hs : s < 4) : isN kA M (h + 2 + s) S.L (S.a s) := d.2.2.2.2.1 s hs
theorem Dc.po (d : Dc kA M h S) {s : Nat} (h4 : 4 ≤ s) (hs : s < 12) : M ((h + 7 + 3 * (s - 4))) = some (oPt ((h + 7 + 3 * (s - 4))) (nI (1 - S.pr s))) ∧ isN kA M ((h + 7 + 3 * (s - 4)) + 1) S.L (S.a s) ∧ isN kA M ((h + 7 + 3 * (s - 4)) + 2) S.L (S.b s) := d.2.2.2.2.2.1 s h4 hs
theorem Dc.sc (d : Dc kA M h S) {s : Nat} (h4 : 12 ≤ s) (hs : s < 20) : isN kA M ((h + 32 + (s - 12))) S.L (S.a s) := d.2.2.2.2.2.2 s h4 hs
theorem Dc.kept (d : Dc kA M h S) (hf : ∀ b, h ≤ b → b ≤ h + 39 → M1 b = M b) : Dc kA M1 h S := by
  obtain ⟨d1, ⟨f1, e1, e2⟩, ⟨f2, e3, e4⟩, ⟨f3, e5, e6⟩, d5, d6, d7⟩ := d
  exact ⟨by rw [hf _ (by omega) (by omega)]; exact d1, ⟨f1, by rw [hf _ (by omega) (by omega)]; exact e1, e2⟩, ⟨f2, by rw [hf _ (by omega) (by omega)]; exact e3, e4⟩, ⟨f3, by rw [hf _ (by omega) (by omega)]; exact e5, e6⟩, fun s hs => (d5 s hs).kept (hf _ (by omega) (by omega)), fun s h4 hs => ⟨by rw [hf _ (by omega) (by omega)]; exact (d6 s h4 hs).1, (d6 s h4 hs).2.1.kept (hf _ (by omega) (by omega)), (d6 s h4 hs).2.2.kept (hf _ (by omega) (by omega))⟩, fun s h4 hs => (d7 s h4 hs).kept (hf _ (by omega) (by omega))⟩
/-- the object's own fields change -/
theorem Dc.fld (d : Dc kA M h S) {sl fd fl : Nat} {x y z : Int32} (hs : x = nI sl) (hfd : y = fedV (mkS S.L S.a S.b S.pr sl fd fl)) (hfl : z = nI fl) (hM1 : M1 = xset M h (oLc h (nI S.L) x y z)) : Dc kA M1 h (mkS S.L S.a S.b S.pr sl fd fl) := by
  obtain ⟨d1, ⟨f1, e1, e2⟩, ⟨f2, e3, e4⟩, ⟨f3, e5, e6⟩, d5, d6, d7⟩ := d
  have hf : ∀ b, h < b → M1 b = M b := fun b hb => by rw [hM1, xset_n (by omega)]
  exact ⟨by rw [hM1, xset_s, hs, hfd, hfl]; rfl, ⟨f1, by rw [hf _ (by omega)]; exact e1, e2⟩, ⟨f2, by rw [hf _ (by omega)]; exact e3, e4⟩, ⟨f3, by rw [hf _ (by omega)]; exact e5, e6⟩, fun s hs => (d5 s hs).kept (hf _ (by omega)), fun s h4 hs => ⟨by rw [hf _ (by omega)]; exact (d6 s h4 hs).1, (d6 s h4 hs).2.1.kept (hf _ (by omega)), (d6 s h4 hs).2.2.kept (hf _ (by omega))⟩, fun s h4 hs => (d7 s h4 hs).kept (hf _ (by omega))⟩
/-- a point's slot is written -/
theorem Dc.wrP (d : Dc kA M h S) {s x y r : Nat} (h4 : 4 ≤ s) (hs : s < 12) (p0 : M1 ((h + 7 + 3 * (s - 4))) = some (oPt ((h + 7 + 3 * (s - 4))) (nI (1 - r)))) (p1 : isN kA M1 ((h + 7 + 3 * (s - 4)) + 1) S.L x) (p2 : isN kA M1 ((h + 7 + 3 * (s - 4)) + 2) S.L y) (hf : ∀ b, h ≤ b → b ≤ h + 39 → b < (h + 7 + 3 * (s - 4)) ∨ (h + 7 + 3 * (s - 4)) + 2 < b → M1 b = M b) : Dc kA M1 h (mkS S.L (un S.a s x) (un S.b s y) (un S.pr s r) S.sealed S.fed S.fl) := by
  obtain ⟨d1, ⟨f1, e1, e2⟩, ⟨f2, e3, e4⟩, ⟨f3, e5, e6⟩, d5, d6, d7⟩ := d
  refine ⟨by rw [hf _ (by omega) (by omega) (by omega)]; exact d1, ⟨f1, by rw [hf _ (by omega) (by omega) (by omega)]; exact e1, e2⟩, ⟨f2, by rw [hf _ (by omega) (by omega) (by omega)]; exact e3, e4⟩, ⟨f3, by rw [hf _ (by omega) (by omega) (by omega)]; exact e5, e6⟩, fun t ht => ?_, fun t h4 ht => ?_, fun t h4 ht => ?_⟩
  · rw [mk_a, un_n (by omega)]
    exact (d5 t ht).kept (hf _ (by omega) (by omega) (by omega))
  · by_cases e : t = s
    · subst e
      rw [mk_pr, mk_a, mk_b, un_s, un_s, un_s]
      exact ⟨p0, p1, p2⟩
    · rw [mk_pr, mk_a, mk_b, un_n e, un_n e, un_n e]
      exact ⟨by rw [hf _ (by omega) (by omega) (by omega)]; exact (d6 t h4 ht).1, (d6 t h4 ht).2.1.kept (hf _ (by omega) (by omega) (by omega)), (d6 t h4 ht).2.2.kept (hf _ (by omega) (by omega) (by omega))⟩
  · rw [mk_a, un_n (by omega)]
    exact (d7 t h4 ht).kept (hf _ (by omega) (by omega) (by omega))
/-- a parameter's or a scalar's slot is written -/
theorem Dc.wrN (d : Dc kA M h S) {s x w : Nat} {b' pr' : Nat → Nat} (hw : (s < 4 ∧ w = h + 2 + s) ∨ (12 ≤ s ∧ s < 20 ∧ w = (h + 32 + (s - 12)))) (p1 : isN kA M1 w S.L x) (hb' : ∀ t, 4 ≤ t → t < 12 → b' t = S.b t ∧ pr' t = S.pr t) (hf : ∀ b, h ≤ b → b ≤ h + 39 → b ≠ w → M1 b = M b) : Dc kA M1 h (mkS S.L (un S.a s x) b' pr' S.sealed S.fed S.fl) := by
  obtain ⟨d1, ⟨f1, e1, e2⟩, ⟨f2, e3, e4⟩, ⟨f3, e5, e6⟩, d5, d6, d7⟩ := d
  refine ⟨by rw [hf _ (by omega) (by omega) (by omega)]; exact d1, ⟨f1, by rw [hf _ (by omega) (by omega) (by omega)]; exact e1, e2⟩, ⟨f2, by rw [hf _ (by omega) (by omega) (by omega)]; exact e3, e4⟩, ⟨f3, by rw [hf _ (by omega) (by omega) (by omega)]; exact e5, e6⟩, fun t ht => ?_, fun t h4 ht => ?_, fun t h4 ht => ?_⟩
  · by_cases e : t = s
    · subst e
      rw [mk_a, un_s, show h + 2 + t = w by omega]
      exact p1
    · rw [mk_a, un_n e]
      exact (d5 t ht).kept (hf _ (by omega) (by omega) (by omega))
  · rw [mk_pr, mk_a, mk_b, un_n (by omega), (hb' t h4 ht).1, (hb' t h4 ht).2]
    exact ⟨by rw [hf _ (by omega) (by omega) (by omega)]; exact (d6 t h4 ht).1, (d6 t h4 ht).2.1.kept (hf _ (by omega) (by omega) (by omega)), (d6 t h4 ht).2.2.kept (hf _ (by omega) (by omega) (by omega))⟩
  · by_cases e : t = s
    · subst e
      rw [mk_a, un_s, show (h + 32 + (t - 12)) = w by omega]
      exact p1
    · rw [mk_a, un_n e]
      exact (d7 t h4 ht).kept (hf _ (by omega) (by omega) (by omega))
theorem Ds.kept (d : Ds kA M h L sl pp) (hf : ∀ b, h + 40 ≤ b → b ≤ h + 75 → M1 b = M b) : Ds kA M1 h L sl pp := by
  obtain ⟨⟨⟨z1, z2, o0⟩, o1, o2, o3, o4, o5, o6, o7, o8⟩, ⟨⟨w1, w2, g0⟩, g1, g2, g3, g4, g5, g6, g7, g8⟩, c0, c1, c2, ⟨rd, r0⟩, rr, lf, rt, ⟨sd, s0⟩, s1, s2, rs⟩ := d
  have k : ∀ {a n : Nat}, h + 40 ≤ a → a ≤ h + 75 → isA kA M a n → isA kA M1 a n := fun h1 h2 q => q.kept (hf _ h1 h2)
  exact ⟨⟨⟨z1, z2, by rw [hf _ (by omega) (by omega)]; exact o0⟩, k (by omega) (by omega) o1, k (by omega) (by omega) o2, k (by omega) (by omega) o3, k (by omega) (by omega) o4, k (by omega) (by omega) o5, k (by omega) (by omega) o6, k (by omega) (by omega) o7, k (by omega) (by omega) o8⟩, ⟨⟨w1, w2, by rw [hf _ (by omega) (by omega)]; exact g0⟩, k (by omega) (by omega) g1, k (by omega) (by omega) g2, k (by omega) (by omega) g3, k (by omega) (by omega) g4, k (by omega) (by omega) g5, k (by omega) (by omega) g6, k (by omega) (by omega) g7, k (by omega) (by omega) g8⟩, by rw [hf _ (by omega) (by omega)]; exact c0, k (by omega) (by omega) c1, k (by omega) (by omega) c2, ⟨rd, by rw [hf _ (by omega) (by omega)]; exact r0⟩, fun j hj => k (by omega) (by omega) (rr j hj), k (by omega) (by omega) lf, k (by omega) (by omega) rt, ⟨sd, by rw [hf _ (by omega) (by omega)]; exact s0⟩, k (by omega) (by omega) s1, k (by omega) (by omega) s2, fun q => (rs q).kept (hf _ (by omega) (by omega)) (hf _ (by omega) (by omega)) (hf _ (by omega) (by omega))⟩
theorem Rs.rk {kA : Nat → ClassId} {M : xM} {r L m : Nat} (q : Rs kA M r L m) (k3 : isA kA M (r + 3) (2 * L + 1)) (k4 : isA kA M (r + 4) L) (k5 : isA kA M (r + 5) L) (k6 : isA kA M (r + 6) L) (k7 : isA kA M (r + 7) L) (k8 : isA kA M (r + 8) L) : Rk kA M r L := by
  obtain ⟨sz2, sh2, hob2⟩ := q.ob
  have hmd := q.md.isA
  obtain ⟨sz, sh, fm, fd, -, -, hd2, -⟩ := q
  exact ⟨⟨_, _, hob2⟩, hmd, ⟨_, hd2⟩, k3, k4, k5, k6, k7, k8⟩
/-- the running sum's rows are told of -/
theorem Ds.rg (d : Ds kA M h L 1 pp) : ∃ id, RG kA M M h L pp [none, none, none, none, none, none, none, none, none] id := by
  obtain ⟨o, ⟨-, g1, g2, g3, g4, g5, g6, g7, g8⟩, c0, c1, c2, ⟨rd, r0⟩, rr, lf, rt, s0, s1, s2, rs⟩ := d
  refine ⟨rd, r0, rs rfl, g3, g4, g5, g6, g7, g8, rr, fun j v hj => ?_, fun _ _ => rfl⟩
  exfalso
  match j, hj with
  | 0, hj | 1, hj | 2, hj | 3, hj | 4, hj | 5, hj | 6, hj | 7, hj | 8, hj => cases hj
  | j + 9, hj => simp at hj
/-- .. and told anew -/
theorem Ds.ofRG (d : Ds kA M h L sl pp) {gs : List (Option Nat)} {id : Nat} (g : RG kA M1 M1 h L pp gs id) (hf : ∀ b, h + 40 ≤ b → b ≤ h + 72 → b < h + 49 ∨ h + 70 < b ∨ (h + 58 ≤ b ∧ b ≤ h + 60) → M1 b = M b) (hs : ∃ d, M1 (h + 73) = some (oPt (h + 73) d)) (hs1 : isA kA M1 (h + 74) L) (hs2 : isA kA M1 (h + 75) L) : Ds kA M1 h L sl pp := by
  obtain ⟨⟨⟨z1, z2, o0⟩, o1, o2, o3, o4, o5, o6, o7, o8⟩, -, c0, c1, c2, -, -, lf, rt, -, s1, s2, -⟩ := d
  obtain ⟨a1, a2, a3, a4, a5, a6, a7, a8, a9, a10, a11⟩ := g
  have k : ∀ {a n : Nat}, h + 40 ≤ a → a ≤ h + 72 → a < h + 49 ∨ h + 70 < a ∨ (h + 58 ≤ a ∧ a ≤ h + 60) → isA kA M a n → isA kA M1 a n := fun h1 h2 h3 q => q.kept (hf _ h1 h2 h3)
  exact ⟨⟨⟨z1, z2, by rw [hf _ (by omega) (by omega) (by omega)]; exact o0⟩, k (by omega) (by omega) (by omega) o1, k (by omega) (by omega) (by omega) o2, k (by omega) (by omega) (by omega) o3, k (by omega) (by omega) (by omega) o4, k (by omega) (by omega) (by omega) o5, k (by omega) (by omega) (by omega) o6, k (by omega) (by omega) (by omega) o7, k (by omega) (by omega) (by omega) o8⟩, a2.rk a3 a4 a5 a6 a7 a8, by rw [hf _ (by omega) (by omega) (by omega)]; exact c0, k (by omega) (by omega) (by omega) c1, k (by omega) (by omega) (by omega) c2, ⟨id, a1⟩, a9, k (by omega) (by omega) (by omega) lf, k (by omega) (by omega) (by omega) rt, hs, hs1, hs2, fun _ => a2⟩
theorem Ds.cg (d : Ds kA M h L 1 pp) : CG kA M M h L pp [none, none] := by
  obtain ⟨o, ⟨-, g1, g2, g3, g4, g5, g6, g7, g8⟩, c0, c1, c2, ⟨rd, r0⟩, rr, lf, rt, s0, s1, s2, rs⟩ := d
  refine ⟨c0, rs rfl, g3, g4, fun j hj => ?_, fun j v hj => ?_, fun _ _ _ _ _ => rfl⟩
  · match j, hj with
    | 0, _ => exact c1
    | 1, _ => exact c2
  · exfalso
    match j, hj with
    | 0, hj | 1, hj => cases hj
    | j + 2, hj => simp at hj
theorem Ds.ofCG (d : Ds kA M h L sl pp) {gs : List (Option Nat)} (g : CG kA M M1 h L pp gs) : Ds kA M1 h L sl pp := by
  obtain ⟨⟨⟨z1, z2, o0⟩, o1, o2, o3, o4, o5, o6, o7, o8⟩, ⟨⟨w1, w2, g0⟩, g1, g2, g3, g4, g5, g6, g7, g8⟩, c0, c1, c2, ⟨rd, r0⟩, rr, lf, rt, ⟨sd, s0⟩, s1, s2, rs⟩ := d
  have hf := g.fr
  have k : ∀ {a n : Nat}, a ≠ h + 52 → a ≠ h + 53 → a ≠ h + 59 → a ≠ h + 60 → isA kA M a n → isA kA M1 a n := fun h1 h2 h3 h4 q => q.kept (hf _ h1 h2 h3 h4)
  exact ⟨⟨⟨z1, z2, by rw [hf _ (by omega) (by omega) (by omega) (by omega)]; exact o0⟩, k (by omega) (by omega) (by omega) (by omega) o1, k (by omega) (by omega) (by omega) (by omega) o2, k (by omega) (by omega) (by omega) (by omega) o3, k (by omega) (by omega) (by omega) (by omega) o4, k (by omega) (by omega) (by omega) (by omega) o5, k (by omega) (by omega) (by omega) (by omega) o6, k (by omega) (by omega) (by omega) (by omega) o7, k (by omega) (by omega) (by omega) (by omega) o8⟩, g.rs.rk g.wk g.sp (k (by omega) (by omega) (by omega) (by omega) g5) (k (by omega) (by omega) (by omega) (by omega) g6) (k (by omega) (by omega) (by omega) (by omega) g7) (k (by omega) (by omega) (by omega) (by omega) g8), g.rn, g.rA 0 (by decide), g.rA 1 (by decide), ⟨rd, by rw [hf _ (by omega) (by omega) (by omega) (by omega)]; exact r0⟩, fun j hj => k (by omega) (by omega) (by omega) (by omega) (rr j hj), k (by omega) (by omega) (by omega) (by omega) lf, k (by omega) (by omega) (by omega) (by omega) rt, ⟨sd, by rw [hf _ (by omega) (by omega) (by omega) (by omega)]; exact s0⟩, k (by omega) (by omega) (by omega) (by omega) s1, k (by omega) (by omega) (by omega) (by omega) s2, fun _ => g.rs⟩
end DKS
theorem fedV_eq {S : St} {s : Nat} (hs : s < 20) : fedV S = nI s ↔ S.fed = s := by
  unfold fedV
  constructor
  · intro q
    split at q
    · have h1 := congrArg Int32.toInt q
      rw [nI_toInt (by omega), nI_toInt (by omega)] at h1
      omega
    · have h1 := congrArg Int32.toInt q
      rw [nI_toInt (by omega)] at h1
      have h2 : (-1 : Int32).toInt = -1 := by decide
      omega
  · intro q
    rw [if_pos (by omega), q]
theorem dgt_of {f : Nat → Int32} {L i v : Nat} (nf : nn f L) (hV : V f L = v) (hi : i < L) : f i = dgt v i := by
  obtain ⟨e1, e2⟩ := dig_of (f := f) hi
  unfold dgt
  rw [← hV, e1, e2, Nat.add_mul_mod_self_left, Nat.mod_eq_of_lt (dg_lt _)]
  exact nI_dg (nf i hi)
theorem feed_V {f : Nat → Int32} {L i : Nat} {w : Int32} (nf : nn f L) (hi : i < L) (hV : V f L < BB ^ i) : V (upd f i w) L = V f L + dg w * BB ^ i := by
  have hz : ∀ j, i ≤ j → j < L → f j = 0 := by
    intro j h1 h2
    have h3 : dg (f j) = 0 := by
      rcases Nat.eq_zero_or_pos (dg (f j)) with h0 | h0
      · exact h0
      · have := V_pos (f := f) (n := L) h2 h0
        have := BB_le h1
        omega
    rw [nI_dg (nf j h2), h3]
    rfl
  rw [V_top (f := f) (k := i) (n := L) (by omega) hz, V_top (f := upd f i w) (k := i + 1) (n := L) (by omega) (fun j h1 h2 => by rw [pk_un (by omega)]; exact hz j (by omega) h2), V_upd]
