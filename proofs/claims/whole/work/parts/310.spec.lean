-- WHAT THE DOCUMENT SAYS, as functions of a desk's state. a: the number of a slot (of a point X), b: a point's Y, pr: 1 a pair, fed = 20: none is fed
abbrev St : Type := Nat × (Nat → Nat) × (Nat → Nat) × (Nat → Nat) × Nat × Nat × Nat
def mkS (L : Nat) (a b pr : Nat → Nat) (sealed fed fl : Nat) : St := (L, a, b, pr, sealed, fed, fl)
def St.L (S : St) : Nat := S.1
def St.a (S : St) : Nat → Nat := S.2.1
def St.b (S : St) : Nat → Nat := S.2.2.1
def St.pr (S : St) : Nat → Nat := S.2.2.2.1
def St.sealed (S : St) : Nat := S.2.2.2.2.1
def St.fed (S : St) : Nat := S.2.2.2.2.2.1
def St.fl (S : St) : Nat := S.2.2.2.2.2.2
section MKS
variable {L s f g : Nat} {a b p : Nat → Nat}
theorem mk_L : (mkS L a b p s f g).L = L := rfl
theorem mk_a : (mkS L a b p s f g).a = a := rfl
theorem mk_b : (mkS L a b p s f g).b = b := rfl
theorem mk_pr : (mkS L a b p s f g).pr = p := rfl
theorem mk_sl : (mkS L a b p s f g).sealed = s := rfl
theorem mk_fd : (mkS L a b p s f g).fed = f := rfl
theorem mk_fl : (mkS L a b p s f g).fl = g := rfl
end MKS
def un (f : Nat → Nat) (i v : Nat) : Nat → Nat := fun j => if j = i then v else f j
theorem un_s {f : Nat → Nat} {i v : Nat} : un f i v i = v := by simp [un]
theorem un_n {f : Nat → Nat} {i j v : Nat} (h : j ≠ i) : un f i v j = f j := by simp [un, h]
def ix (x : Int32) : Nat := x.toInt.toNat
abbrev isSl (x : Int32) : Prop := 0 ≤ x.toInt ∧ x.toInt < 20
abbrev isPa (x : Int32) : Prop := 0 ≤ x.toInt ∧ x.toInt < 4
abbrev isPo (x : Int32) : Prop := 4 ≤ x.toInt ∧ x.toInt < 12
abbrev isSc (x : Int32) : Prop := 12 ≤ x.toInt ∧ x.toInt < 20
theorem ix_eq {x : Int32} (h : 0 ≤ x.toInt) : x = nI (ix x) := (nI_dg h)
theorem ix_int {x : Int32} (h : 0 ≤ x.toInt) : (ix x : Int) = x.toInt := Int.toNat_of_nonneg h
def dgt (v j : Nat) : Int32 := nI (v / BB ^ j % BB)
def fedV (S : St) : Int32 := if S.fed < 20 then nI S.fed else -1
def lim (S : St) (s : Nat) : Nat := if 4 ≤ s ∧ s < 12 then 2 * S.L else S.L
def gP (P A B : Nat) : Prop := P % 2 = 1 ∧ 3 < P ∧ A < P ∧ B < P ∧ dsc (P - 1) A B ≠ 0
abbrev goodP (S : St) : Prop := gP (S.a 0) (S.a 1) (S.a 2)
def Si (S : St) : Prop := 1 ≤ S.L ∧ S.L ≤ 9 ∧ (∀ s, S.a s < BB ^ S.L) ∧ (∀ s, S.b s < BB ^ S.L) ∧ (∀ s, S.pr s ≤ 1) ∧ (∀ s, 4 ≤ s → s < 12 → S.pr s = 0 → S.a s = 0 ∧ S.b s = 0) ∧ S.sealed ≤ 1 ∧ (S.sealed = 1 → goodP S) ∧ (S.fed < 20 → S.fl < lim S S.fed ∧ S.a S.fed < BB ^ S.fl ∧ S.b S.fed < BB ^ (S.fl - S.L) ∧ (S.sealed = 1 → 4 ≤ S.fed)) ∧ (20 ≤ S.fed → S.fed = 20 ∧ S.fl = 0)
section SIS
variable {S : St}
theorem Si.L1 (h : Si S) : 1 ≤ S.L := h.1
theorem Si.L9 (h : Si S) : S.L ≤ 9 := h.2.1
theorem Si.ab (h : Si S) : ∀ s, S.a s < BB ^ S.L := h.2.2.1
theorem Si.bb (h : Si S) : ∀ s, S.b s < BB ^ S.L := h.2.2.2.1
theorem Si.prb (h : Si S) : ∀ s, S.pr s ≤ 1 := h.2.2.2.2.1
theorem Si.pr0 (h : Si S) : ∀ s, 4 ≤ s → s < 12 → S.pr s = 0 → S.a s = 0 ∧ S.b s = 0 := h.2.2.2.2.2.1
theorem Si.sl (h : Si S) : S.sealed ≤ 1 := h.2.2.2.2.2.2.1
theorem Si.sg (h : Si S) : S.sealed = 1 → goodP S := h.2.2.2.2.2.2.2.1
theorem Si.fd (h : Si S) : S.fed < 20 → S.fl < lim S S.fed ∧ S.a S.fed < BB ^ S.fl ∧ S.b S.fed < BB ^ (S.fl - S.L) ∧ (S.sealed = 1 → 4 ≤ S.fed) := h.2.2.2.2.2.2.2.2.1
theorem Si.f0 (h : Si S) : 20 ≤ S.fed → S.fed = 20 ∧ S.fl = 0 := h.2.2.2.2.2.2.2.2.2
end SIS
abbrev on (S : St) (s : Nat) : Prop := S.pr s = 0 ∨ onN (S.a 0) (S.a 1) (S.a 2) (S.a s) (S.b s)
abbrev good (S : St) (x : Int32) : Prop := S.sealed = 1 ∧ isPo x ∧ on S (ix x)
abbrev kp (S : St) : Nat := S.a 0 - 1
def pt (S : St) (s : Nat) : Pt (kp S) := if S.pr s = 0 then none else some (fz (kp S) (S.a s), fz (kp S) (S.b s))
def wp {k : Nat} (S : St) (s : Nat) (P : Pt k) : St := match P with
  | none => (mkS S.L (un S.a s 0) (un S.b s 0) (un S.pr s 0) S.sealed S.fed S.fl)
  | some (x, y) => (mkS S.L (un S.a s x.val) (un S.b s y.val) (un S.pr s 1) S.sealed S.fed S.fl)
def endf (S : St) (s : Nat) : St := if S.fed = s then (mkS S.L S.a S.b S.pr S.sealed 20 0) else S
theorem endf_y {S : St} {s : Nat} (h : S.fed = s) : endf S s = mkS S.L S.a S.b S.pr S.sealed 20 0 := by unfold endf; rw [if_pos h]
theorem endf_n {S : St} {s : Nat} (h : S.fed ≠ s) : endf S s = S := by unfold endf; rw [if_neg h]
def wrp {k : Nat} (S : St) (s : Nat) (r : Option (Pt k)) : Int32 × St := match r with
  | none => (0, S)
  | some P => (1, endf (wp S s P) s)
def spNew (L : Int32) : St := mkS (if L.toInt < 1 then 1 else if 9 < L.toInt then 9 else ix L) (fun _ => 0) (fun _ => 0) (fun _ => 0) 0 20 0
def spSelect (S : St) (x : Int32) : Int32 × St := if isSl x ∧ (S.sealed = 1 → 4 ≤ ix x) then (1, (mkS S.L (un S.a (ix x) 0) (un S.b (ix x) 0) (un S.pr (ix x) 0) S.sealed (ix x) 0)) else (0, S)
def fedS (S : St) (w : Nat) : St := if S.fl < S.L then (mkS S.L (un S.a S.fed (S.a S.fed + w * BB ^ S.fl)) S.b (if 4 ≤ S.fed ∧ S.fed < 12 then un S.pr S.fed 1 else S.pr) S.sealed S.fed S.fl) else (mkS S.L S.a (un S.b S.fed (S.b S.fed + w * BB ^ (S.fl - S.L))) (if 4 ≤ S.fed ∧ S.fed < 12 then un S.pr S.fed 1 else S.pr) S.sealed S.fed S.fl)
def spFeed (S : St) (w : Int32) : Int32 × St := if S.fed < 20 ∧ 0 ≤ w.toInt then (1, if S.fl + 1 = lim S S.fed then (mkS ((fedS S (ix w)).L) ((fedS S (ix w)).a) ((fedS S (ix w)).b) ((fedS S (ix w)).pr) ((fedS S (ix w)).sealed) 20 0) else (mkS ((fedS S (ix w)).L) ((fedS S (ix w)).a) ((fedS S (ix w)).b) ((fedS S (ix w)).pr) ((fedS S (ix w)).sealed) ((fedS S (ix w)).fed) (S.fl + 1))) else (0, S)
def spSeal (S : St) : Int32 × St := if S.sealed = 1 then (nI 4, S) else if S.a 0 % 2 = 0 ∨ S.a 0 ≤ 3 then (nI 1, S) else if S.a 0 ≤ S.a 1 ∨ S.a 0 ≤ S.a 2 then (nI 2, S) else if dsc (S.a 0 - 1) (S.a 1) (S.a 2) = 0 then (nI 3, S) else (nI 0, if S.fed < 4 then (mkS S.L S.a S.b S.pr 1 20 0) else (mkS S.L S.a S.b S.pr 1 S.fed S.fl))
def spOpen (S : St) : Int32 × St := (nI S.sealed, (mkS S.L S.a S.b S.pr 0 S.fed S.fl))
def spLimb (S : St) (k i : Int32) : Int32 := if isSl k ∧ 0 ≤ i.toInt ∧ i.toInt < lim S (ix k) then (if ix i < S.L then dgt (S.a (ix k)) (ix i) else dgt (S.b (ix k)) (ix i - S.L)) else -1
def spOn (S : St) (x : Int32) : Int32 := if good S x then 1 else 0
def spInf (S : St) (x : Int32) : Int32 := if isPo x ∧ S.pr (ix x) = 0 then 1 else 0
def spAdd (S : St) (d x y : Int32) : Int32 × St := if isPo d ∧ good S x ∧ good S y then wrp S (ix d) (psum (fz (kp S) (S.a 1)) (pt S (ix x)) (pt S (ix y))) else (0, S)
def spMul (S : St) (d k x : Int32) : Int32 × St := if isPo d ∧ isSc k ∧ good S x then wrp S (ix d) (kT (fz (kp S) (S.a 1)) (pt S (ix x)) (S.a (ix k))) else (0, S)
def spNeg (S : St) (d x : Int32) : Int32 × St := if isPo d ∧ good S x then (1, endf (mkS S.L (un S.a (ix d) (S.a (ix x))) (un S.b (ix d) (if S.b (ix x) = 0 then 0 else S.a 0 - S.b (ix x))) (un S.pr (ix d) (S.pr (ix x))) S.sealed S.fed S.fl) (ix d)) else (0, S)
def spSame (S : St) (x y : Int32) : Int32 := if isPo x ∧ isPo y ∧ S.pr (ix x) = S.pr (ix y) ∧ S.a (ix x) = S.a (ix y) ∧ S.b (ix x) = S.b (ix y) then 1 else 0
def verR {k : Nat} (n r : Nat) (A : Zp k) (G Q : Option (Pt k)) : Int32 := match G, Q with
  | some G, some Q => match psum A G Q with
    | none => -2
    | some none => 0
    | some (some (X, _)) => if X.val % n = r then 1 else 0
  | _, _ => -2
def spVer (S : St) (q g e r s : Int32) : Int32 := if good S q ∧ good S g ∧ isSc e ∧ isSc r ∧ isSc s ∧ 0 < S.a 3 then
    (if 0 < S.a (ix r) ∧ S.a (ix r) < S.a 3 ∧ 0 < S.a (ix s) ∧ S.a (ix s) < S.a 3 then match inv? (S.a 3) (S.a (ix s)) with
      | none => 0
      | some w => verR (S.a 3) (S.a (ix r)) (fz (kp S) (S.a 1)) (kT (fz (kp S) (S.a 1)) (pt S (ix g)) (S.a (ix e) * w % S.a 3)) (kT (fz (kp S) (S.a 1)) (pt S (ix q)) (S.a (ix r) * w % S.a 3))
    else 0) else -1
def recR (n u v : Nat) (what : Int32) : Option Nat := if what = 0 then some ((u + v) % n) else if what = 1 then some ((u + (n - v)) % n) else if what = 2 then some (u * v % n) else inv? n u
def spRec (S : St) (what d x y : Int32) : Int32 × St := if 0 ≤ what.toInt ∧ what.toInt ≤ 3 ∧ isSc d ∧ isSc x ∧ (what.toInt < 3 → isSc y) ∧ 0 < S.a 3 then (match recR (S.a 3) (S.a (ix x) % S.a 3) (S.a (ix y) % S.a 3) what with
      | none => (0, S)
      | some w => (1, endf (mkS S.L (un S.a (ix d) w) S.b S.pr S.sealed S.fed S.fl) (ix d))) else (0, S)
def spState (S : St) (w : Int32) : Int32 := if w = 0 then nI S.L else if w = 1 then nI S.sealed else if w = 2 then fedV S else if w = 3 then nI S.fl else -1
-- WHAT STAYS
theorem Si_new (L : Int32) : Si (spNew L) := by
  have hL : 1 ≤ (spNew L).L ∧ (spNew L).L ≤ 9 := by
    show 1 ≤ (if L.toInt < 1 then 1 else if 9 < L.toInt then 9 else ix L) ∧ (if L.toInt < 1 then 1 else if 9 < L.toInt then 9 else ix L) ≤ 9
    split
    · omega
    · split
      · omega
      · have := ix_int (x := L) (by omega)
        omega
  exact ⟨hL.1, hL.2, fun s => BBp _, fun s => BBp _, fun s => Nat.zero_le _, fun s _ _ _ => ⟨rfl, rfl⟩, Nat.zero_le _, fun h => absurd (show (0 : Nat) = 1 from h) (by decide), fun h => absurd h (Nat.lt_irrefl 20), fun _ => ⟨rfl, rfl⟩⟩
/-- a slot that is no parameter is written -/
theorem Si.wr {S : St} (h : Si S) {s x y r : Nat} (h4 : 4 ≤ s) (hx : x < BB ^ S.L) (hy : y < BB ^ S.L) (hr : r ≤ 1) (hz : s < 12 → r = 0 → x = 0 ∧ y = 0) : Si (endf (mkS S.L (un S.a s x) (un S.b s y) (un S.pr s r) S.sealed S.fed S.fl) s) := by
  have hab : ∀ t, un S.a s x t < BB ^ S.L := fun t => by
    by_cases e : t = s
    · rw [e, un_s]; exact hx
    · rw [un_n e]; exact h.ab t
  have hbb : ∀ t, un S.b s y t < BB ^ S.L := fun t => by
    by_cases e : t = s
    · rw [e, un_s]; exact hy
    · rw [un_n e]; exact h.bb t
  have hpb : ∀ t, un S.pr s r t ≤ 1 := fun t => by
    by_cases e : t = s
    · rw [e, un_s]; exact hr
    · rw [un_n e]; exact h.prb t
  have hp0 : ∀ t, 4 ≤ t → t < 12 → un S.pr s r t = 0 → un S.a s x t = 0 ∧ un S.b s y t = 0 := fun t t1 t2 t3 => by
    by_cases e : t = s
    · subst e; rw [un_s] at t3; rw [un_s, un_s]; exact hz t2 t3
    · rw [un_n e] at t3; rw [un_n e, un_n e]; exact h.pr0 t t1 t2 t3
  have hg : S.sealed = 1 → goodP (mkS S.L (un S.a s x) (un S.b s y) (un S.pr s r) S.sealed S.fed S.fl) := fun q => by
    have := h.sg q
    show gP (un S.a s x 0) (un S.a s x 1) (un S.a s x 2)
    rw [un_n (by omega), un_n (by omega), un_n (by omega)]
    exact this
  by_cases hne : S.fed = s
  · rw [endf_y (S := mkS S.L (un S.a s x) (un S.b s y) (un S.pr s r) S.sealed S.fed S.fl) hne]
    exact ⟨h.L1, h.L9, hab, hbb, hpb, hp0, h.sl, hg, fun q => absurd q (Nat.lt_irrefl 20), fun _ => ⟨rfl, rfl⟩⟩
  · rw [endf_n (S := mkS S.L (un S.a s x) (un S.b s y) (un S.pr s r) S.sealed S.fed S.fl) hne]
    refine ⟨h.L1, h.L9, hab, hbb, hpb, hp0, h.sl, hg, fun q => ?_, h.f0⟩
    have := h.fd q
    show S.fl < lim S S.fed ∧ un S.a s x S.fed < _ ∧ un S.b s y S.fed < _ ∧ _
    rw [un_n hne, un_n hne]
    exact this
theorem Si.kb {S : St} (h : Si S) (hs : S.sealed = 1) {k : Nat} (hk : k = kp S) (x : Zp k) : x.val < BB ^ S.L := by
  have h1 := x.isLt
  have h2 := (h.sg hs).2.1
  have h3 := h.ab 0
  unfold kp at hk
  omega
theorem Si_wrp {S : St} (h : Si S) (hs : S.sealed = 1) {s : Nat} (h1 : 4 ≤ s) (r : Option (Pt (kp S))) : Si (wrp S s r).2 := by
  cases r with
  | none => exact h
  | some P =>
    cases P with
    | none => exact h.wr h1 (BBp _) (BBp _) (by omega) (fun _ _ => ⟨rfl, rfl⟩)
    | some P => obtain ⟨x, y⟩ := P; exact h.wr h1 (h.kb hs rfl x) (h.kb hs rfl y) (by omega) (fun _ q => absurd q (by decide))
theorem po_ix {x : Int32} (h : isPo x) : 4 ≤ ix x ∧ ix x < 12 := by
  have := ix_int (x := x) (by omega)
  omega
theorem sc_ix {x : Int32} (h : isSc x) : 12 ≤ ix x ∧ ix x < 20 := by
  have := ix_int (x := x) (by omega)
  omega
theorem sl_ix {x : Int32} (h : isSl x) : ix x < 20 := by
  have := ix_int (x := x) (by omega)
  omega
theorem Si_add {S : St} (h : Si S) (d x y : Int32) : Si (spAdd S d x y).2 := by
  unfold spAdd
  split
  · rename_i q
    exact Si_wrp h q.2.1.1 (po_ix q.1).1 _
  · exact h
theorem Si_mul {S : St} (h : Si S) (d k x : Int32) : Si (spMul S d k x).2 := by
  unfold spMul
  split
  · rename_i q
    exact Si_wrp h q.2.2.1 (po_ix q.1).1 _
  · exact h
theorem Si_neg {S : St} (h : Si S) (d x : Int32) : Si (spNeg S d x).2 := by
  unfold spNeg
  split
  · rename_i q
    have hb := h.ab 0
    have hx := po_ix q.2.2.1
    have h1 := h.bb (ix x)
    refine h.wr (po_ix q.1).1 (h.ab _) ?_ (h.prb _) (fun _ q0 => ?_)
    · split <;> omega
    · have := h.pr0 _ hx.1 hx.2 q0
      exact ⟨this.1, by rw [if_pos this.2]⟩
  · exact h
theorem Si_select {S : St} (h : Si S) (x : Int32) : Si (spSelect S x).2 := by
  unfold spSelect
  split
  · rename_i q
    have hx := sl_ix q.1
    have hun : ∀ (f : Nat → Nat) (t : Nat), un f (ix x) 0 t = 0 ∨ un f (ix x) 0 t = f t := fun f t => by
      by_cases e : t = ix x
      · rw [e, un_s]; exact Or.inl rfl
      · rw [un_n e]; exact Or.inr rfl
    refine ⟨h.L1, h.L9, fun t => ?_, fun t => ?_, fun t => ?_, fun t t1 t2 t3 => ?_, h.sl, fun q0 => ?_, fun _ => ?_, fun q0 => ?_⟩
    · simp only [mk_L, mk_a, mk_b, mk_pr, mk_sl, mk_fd, mk_fl]
      have := h.ab t
      rcases hun S.a t with e | e <;> rw [e]
      · exact BBp _
      · exact this
    · simp only [mk_L, mk_a, mk_b, mk_pr, mk_sl, mk_fd, mk_fl]
      have := h.bb t
      rcases hun S.b t with e | e <;> rw [e]
      · exact BBp _
      · exact this
    · simp only [mk_L, mk_a, mk_b, mk_pr, mk_sl, mk_fd, mk_fl]
      have := h.prb t
      rcases hun S.pr t with e | e <;> rw [e]
      · omega
      · exact this
    · simp only [mk_L, mk_a, mk_b, mk_pr, mk_sl, mk_fd, mk_fl] at t3 ⊢
      by_cases e : t = ix x
      · rw [e, un_s, un_s]; exact ⟨rfl, rfl⟩
      · rw [un_n e] at t3; rw [un_n e, un_n e]; exact h.pr0 t t1 t2 t3
    · have h1 := h.sg q0
      have h2 := q.2 q0
      show gP (un S.a (ix x) 0 0) (un S.a (ix x) 0 1) (un S.a (ix x) 0 2)
      rw [un_n (by omega), un_n (by omega), un_n (by omega)]
      exact h1
    · simp only [mk_L, mk_a, mk_b, mk_pr, mk_sl, mk_fd, mk_fl]
      rw [un_s, un_s]
      refine ⟨?_, BBp _, BBp _, q.2⟩
      unfold lim
      simp only [mk_L, mk_a, mk_b, mk_pr, mk_sl, mk_fd, mk_fl]
      have := h.L1
      split <;> omega
    · simp only [mk_L, mk_a, mk_b, mk_pr, mk_sl, mk_fd, mk_fl] at q0
      omega
  · exact h
theorem BB_le {a b : Nat} (h : a ≤ b) : BB ^ a ≤ BB ^ b := Nat.pow_le_pow_right (by decide) h
theorem feed_lt {x w n : Nat} (hx : x < BB ^ n) (hw : w < BB) : x + w * BB ^ n < BB ^ (n + 1) := by
  rw [Nat.pow_succ, Nat.mul_comm]
  have : BB ^ n * w + BB ^ n ≤ BB ^ n * BB := by
    rw [← Nat.mul_succ]
    exact Nat.mul_le_mul_left _ hw
  omega
theorem Si_feed {S : St} (h : Si S) (w : Int32) : Si (spFeed S w).2 := by
  unfold spFeed
  split
  · rename_i q
    obtain ⟨hf, hw⟩ := q
    obtain ⟨f1, f2, f3, f4⟩ := h.fd hf
    have hwb : ix w < BB := dg_lt w
    have hun : ∀ (f : Nat → Nat) (i v B : Nat), (∀ t, f t < B) → v < B → ∀ t, un f i v t < B := fun f i v B e1 e2 t => by
      by_cases e : t = i
      · rw [e, un_s]; exact e2
      · rw [un_n e]; exact e1 t
    have hpr : ∀ t, (if 4 ≤ S.fed ∧ S.fed < 12 then un S.pr S.fed 1 else S.pr) t ≤ 1 := fun t => by
      have := h.prb t
      split
      · by_cases e : t = S.fed
        · rw [e, un_s]; omega
        · rw [un_n e]; exact this
      · exact this
    have hpz : ∀ t, 4 ≤ t → t < 12 → (if 4 ≤ S.fed ∧ S.fed < 12 then un S.pr S.fed 1 else S.pr) t = 0 → t ≠ S.fed ∧ S.pr t = 0 := fun t t1 t2 t3 => by
      split at t3
      · by_cases e : t = S.fed
        · rw [e, un_s] at t3; omega
        · rw [un_n e] at t3; exact ⟨e, t3⟩
      · exact ⟨by omega, t3⟩
    have hL9 : lim S S.fed ≤ 2 * S.L := by unfold lim; split <;> omega
    unfold fedS
    by_cases hfl : S.fl < S.L
    · rw [if_pos hfl]
      have hlt := feed_lt f2 hwb
      have hle := BB_le (a := S.fl + 1) (b := S.L) (by omega)
      have hga : S.sealed = 1 → goodP (mkS S.L (un S.a S.fed (S.a S.fed + ix w * BB ^ S.fl)) S.b S.pr S.sealed S.fed S.fl) := fun q0 => by
        have h1 := h.sg q0
        have h2 := f4 q0
        show gP (un S.a S.fed (S.a S.fed + ix w * BB ^ S.fl) 0) (un S.a S.fed (S.a S.fed + ix w * BB ^ S.fl) 1) (un S.a S.fed (S.a S.fed + ix w * BB ^ S.fl) 2)
        rw [un_n (by omega), un_n (by omega), un_n (by omega)]
        exact h1
      have hp0 : ∀ t, 4 ≤ t → t < 12 → (if 4 ≤ S.fed ∧ S.fed < 12 then un S.pr S.fed 1 else S.pr) t = 0 → un S.a S.fed (S.a S.fed + ix w * BB ^ S.fl) t = 0 ∧ S.b t = 0 := fun t t1 t2 t3 => by
        obtain ⟨e1, e2⟩ := hpz t t1 t2 t3
        rw [un_n e1]
        exact h.pr0 t t1 t2 e2
      split
      · exact ⟨h.L1, h.L9, hun _ _ _ _ h.ab (Nat.lt_of_lt_of_le hlt hle), h.bb, hpr, hp0, h.sl, hga, fun q0 => absurd q0 (Nat.lt_irrefl 20), fun _ => ⟨rfl, rfl⟩⟩
      · rename_i hne
        refine ⟨h.L1, h.L9, hun _ _ _ _ h.ab (Nat.lt_of_lt_of_le hlt hle), h.bb, hpr, hp0, h.sl, hga, fun q0 => ⟨?_, ?_, ?_, f4⟩, fun q0 => absurd q0 (show ¬ 20 ≤ S.fed by omega)⟩
        · show S.fl + 1 < lim S S.fed
          omega
        · simp only [mk_L, mk_a, mk_b, mk_pr, mk_sl, mk_fd, mk_fl]
          rw [un_s]
          exact hlt
        · have := BB_le (a := S.fl - S.L) (b := S.fl + 1 - S.L) (by omega)
          simp only [mk_L, mk_a, mk_b, mk_pr, mk_sl, mk_fd, mk_fl]
          omega
    · rw [if_neg hfl]
      have hlt := feed_lt f3 hwb
      have hle := BB_le (a := S.fl - S.L + 1) (b := S.L) (by omega)
      have hpo : 4 ≤ S.fed ∧ S.fed < 12 := by
        unfold lim at f1
        split at f1
        · assumption
        · omega
      simp only [if_pos hpo] at hpr
      simp only [if_pos hpo] at hpz
      rw [if_pos hpo]
      have hp0 : ∀ t, 4 ≤ t → t < 12 → un S.pr S.fed 1 t = 0 → S.a t = 0 ∧ un S.b S.fed (S.b S.fed + ix w * BB ^ (S.fl - S.L)) t = 0 := fun t t1 t2 t3 => by
        obtain ⟨e1, e2⟩ := hpz t t1 t2 t3
        rw [un_n e1]
        exact h.pr0 t t1 t2 e2
      split
      · exact ⟨h.L1, h.L9, h.ab, hun _ _ _ _ h.bb (Nat.lt_of_lt_of_le hlt hle), hpr, hp0, h.sl, h.sg, fun q0 => absurd q0 (Nat.lt_irrefl 20), fun _ => ⟨rfl, rfl⟩⟩
      · rename_i hne
        refine ⟨h.L1, h.L9, h.ab, hun _ _ _ _ h.bb (Nat.lt_of_lt_of_le hlt hle), hpr, hp0, h.sl, h.sg, fun q0 => ⟨?_, ?_, ?_, f4⟩, fun q0 => absurd q0 (show ¬ 20 ≤ S.fed by omega)⟩
        · show S.fl + 1 < lim S S.fed
          omega
        · have := BB_le (a := S.fl) (b := S.fl + 1) (by omega)
          simp only [mk_L, mk_a, mk_b, mk_pr, mk_sl, mk_fd, mk_fl]
          omega
        · simp only [mk_L, mk_a, mk_b, mk_pr, mk_sl, mk_fd, mk_fl]
          rw [un_s, show S.fl + 1 - S.L = S.fl - S.L + 1 by omega]
          exact hlt
  · exact h
theorem Si_seal {S : St} (h : Si S) : Si (spSeal S).2 := by
  unfold spSeal
  split
  · exact h
  · split
    · exact h
    · split
      · exact h
      · split
        · exact h
        · rename_i g0 g1 g2 g3
          have hg : goodP S := ⟨by omega, by omega, by omega, by omega, g3⟩
          simp only [mk_L, mk_a, mk_b, mk_pr, mk_sl, mk_fd, mk_fl]
          split
          · exact ⟨h.L1, h.L9, h.ab, h.bb, h.prb, h.pr0, Nat.le_refl 1, fun _ => hg, fun q0 => absurd q0 (Nat.lt_irrefl 20), fun _ => ⟨rfl, rfl⟩⟩
          · rename_i hf
            exact ⟨h.L1, h.L9, h.ab, h.bb, h.prb, h.pr0, Nat.le_refl 1, fun _ => hg, fun q0 => ⟨(h.fd q0).1, (h.fd q0).2.1, (h.fd q0).2.2.1, fun _ => show 4 ≤ S.fed by omega⟩, h.f0⟩
theorem Si_open {S : St} (h : Si S) : Si (spOpen S).2 := by
  unfold spOpen
  exact ⟨h.L1, h.L9, h.ab, h.bb, h.prb, h.pr0, Nat.zero_le 1, fun q => absurd (show (0 : Nat) = 1 from q) (by decide), fun q0 => ⟨(h.fd q0).1, (h.fd q0).2.1, (h.fd q0).2.2.1, fun q => absurd (show (0 : Nat) = 1 from q) (by decide)⟩, h.f0⟩
theorem recR_lt {n u v w : Nat} {what : Int32} (hn : 0 < n) (h : recR n u v what = some w) : w < n := by
  unfold recR at h
  split at h
  · cases h; exact Nat.mod_lt _ hn
  · split at h
    · cases h; exact Nat.mod_lt _ hn
    · split at h
      · cases h; exact Nat.mod_lt _ hn
      · exact (inv_spec h).1
theorem Si_rec {S : St} (h : Si S) (what d x y : Int32) : Si (spRec S what d x y).2 := by
  unfold spRec
  split
  · rename_i q
    split
    · exact h
    · rename_i w hw
      have h1 := recR_lt q.2.2.2.2.2 hw
      have h2 := h.ab 3
      have hd := sc_ix q.2.2.1
      have h3 := h.wr (s := ix d) (x := w) (y := S.b (ix d)) (r := S.pr (ix d)) (by omega) (by omega) (h.bb _) (h.prb _) (fun q => by omega)
      have e1 : un S.b (ix d) (S.b (ix d)) = S.b := by
        funext j
        by_cases e : j = ix d
        · rw [e, un_s]
        · rw [un_n e]
      have e2 : un S.pr (ix d) (S.pr (ix d)) = S.pr := by
        funext j
        by_cases e : j = ix d
        · rw [e, un_s]
        · rw [un_n e]
      rw [e1, e2] at h3
      exact h3
  · exact h
