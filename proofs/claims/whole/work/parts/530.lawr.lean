def zX (D : va_G) (kA : Nat → ClassId) (N0 z b L : Nat) (xs : Nat → Int32) (M : xM) (U : State) : Prop := zB D vwCl (xT kA) N0 z M U ∧ va_X b L xs U U.heap
theorem Dk.kept6 {kA : Nat → ClassId} {M M1 : xM} {h : Nat} {S : St} (d : Dk kA M h S) (hf : ∀ b, h ≤ b → b ≤ h + 75 → M1 b = M b) : Dk kA M1 h S := ⟨d.1, d.2.1.kept (fun b h1 h2 => hf b h1 (by omega)), d.2.2.kept (fun b h1 h2 => hf b (by omega) h2)⟩
theorem Mk.kept {kA : Nat → ClassId} {M M1 : xM} {g : Nat} {S : St} (d : Mk kA M g S) (hf : ∀ b, g ≤ b → b ≤ g + 7 → M1 b = M b) : Mk kA M1 g S := by
  obtain ⟨⟨us, h0⟩, ⟨f, h1, h2, h3⟩, ⟨z, h4, h5⟩, hw⟩ := d
  exact ⟨⟨us, by rw [hf _ (by omega) (by omega)]; exact h0⟩, ⟨f, by rw [hf _ (by omega) (by omega)]; exact h1, h2, h3⟩, ⟨z, by rw [hf _ (by omega) (by omega)]; exact h4, h5⟩, hw.kept (fun b b1 b2 => hf b (by omega) (by omega))⟩
section LAWR
variable {p : Program} {l : Launch} {e : Env} {R : Room} {s : State} {m : MethodId} {args : Array Value} {below : List Frame} {meth : Method} {c : Code} {H : Heap} {locs : List Loc} {cells slots : Nat} {Q : State → Prop}
variable {cc : ByteArray} {pc nL : Nat} {rt9 : Option FieldType} {own : String} {Ts : List Cond} {ls : Array Slot} {rest st0 : List Value} {D : va_G} {cl : List vw_C} {z b L index : Nat} {xs : Nat → Int32} {tys : List (ClassId × FieldType)} {N0 : Nat} {M : xM} {kA : Nat → ClassId}
theorem r_sld (C : xC p s m args meth c cc nL rt9 own Ts D cl tys N0) (hX : va_X b L xs s s.heap) (hbl : b < N0) (hN0 : N0 = s.heap.size) (hS : va_S (xA N0) s.heap H locs) {i : Nat} (hi : i < L) (hL : L ≤ 3073) (hdg : decode cc pc = .ok (.iaload, 1))
    (kk : W p l e R s m args below meth c H locs cells slots Q (F0 m (pc + 1) ls (.int (xs i) :: rest))) : W p l e R s m args below meth c H locs cells slots Q (F0 m pc ls (.int (nI i) :: .ref b :: rest)) := by
  have e0 : (nI i).toNatClampNeg = i := nI_clamp (by omega)
  refine va_sld C.1 C.2.1 hX (by omega) (Nat.not_le.mpr hbl) hS (i := nI i) (fun q => ?_) hdg (by rw [e0]; exact kk)
  rcases q with q | q
  · exact nI_n0 (by omega) q
  · omega
theorem r_slen (C : xC p s m args meth c cc nL rt9 own Ts D cl tys N0) (hX : va_X b L xs s s.heap) (hbl : b < N0) (hN0 : N0 ≤ s.heap.size) (hS : va_S (xA N0) s.heap H locs) (hdg : decode cc pc = .ok (.arraylength, 1))
    (kk : W p l e R s m args below meth c H locs cells slots Q (F0 m (pc + 1) ls (.int (nI L) :: rest))) : W p l e R s m args below meth c H locs cells slots Q (F0 m pc ls (.ref b :: rest)) :=
  va_slen C.1 C.2.1 hX (Nat.lt_of_lt_of_le hbl hN0) (Nat.not_le.mpr hbl) hS hdg kk
theorem r_iretz {post : Int32 → xM → Prop} {v : Int32} (C : xC p s m args meth c cc nL (some .int) own Ts D cl tys N0) (hM : xW D cl N0 M H) (hS : va_S (xA N0) s.heap H locs) (hz : zsz H z) (hp : post v M) (hdg : decode cc pc = .ok (.ireturn, 1)) : W p l e R s m args below meth c H locs cells slots (MQ below (va_Qi post (zB D cl tys N0 z) (xA N0)) args s cells slots (xA N0)) (F0 m pc ls [.int v]) :=
  W.iret (v := v) C.1 C.2.1 C.2.2.2.2.2.1 (fun t ht hW => ⟨⟨v, M, rfl, hp, xB_end C hM hS ht hW, by rw [ht]; exact hz⟩, hS.F ht⟩) hS.2.2 hdg C.2.2.2.2.2.2.1
set_option maxRecDepth 100000 in
theorem c_cell (l : Launch) (D : va_G) (kA : Nat → ClassId) (N0 z b L : Nat) (xs : Nat → Int32) (M : xM) (hbl : b < N0) (hL : L ≤ 3073) : Met l yL_cell wsL_cell (xR 0) (va_Pc [.ref b, .int (nI 0)] (zX D kA N0 z b L xs M)) (va_Qi (fun v M1 => v = (if 0 < L then xs 0 else 0) ∧ M1 = M) (zB D vwCl (xT kA) N0 z) (xA N0)) 0 0 (xA N0) := by
  refine Met.ofW (cc := cL_cell) (maxL := 2) (ret := some .int) (by decide) rfl ?_
  intro p e s m args below meth c s₁ B hml hv
  obtain ⟨rfl, ⟨⟨hN, hM, hK⟩, hz⟩, hX⟩ := hv
  have hz : zsz s.heap z := hz
  have hl := lv_entry [.ref b, .int (nI 0)] (n := 2) (Nat.le_of_ble_eq_true rfl)
  rw [lg_entry_eq]
  generalize (lg_sl ([.ref b, .int (nI 0)]) ++ List.replicate (2 - (lg_sl ([.ref b, .int (nI 0)])).length) Slot.unset).toArray = ls at hl ⊢
  have hl : lv_has ls 2 [(0, .ref b), (1, .int (nI 0))] := hl
  have C : xC p s m [.ref b, .int (nI 0)].toArray meth c cL_cell 2 (some .int) yL_cell.cls wsL_cell D vwCl (xT kA) N0 := ⟨B.exec, B.bytes, hml, findClass_of_methodNamed B.named, atoms_spec (ws := wsL_cell) B.pre, B.returns, B.notSynchronized, hK, hN⟩
  obtain ⟨hx, hb, -, hown, hts, hr, hlocks, -, -⟩ := _root_.id C
  have hS : va_S (xA N0) s.heap s.heap [] := va_S.rf
  refine lv_iload_n hx hb dL_cell_0 rfl (lv_at hl 1 rfl) ?_
  refine lv_aload_n hx hb dL_cell_1 rfl (lv_at hl 0 rfl) ?_
  refine r_slen C hX hbl hN hS dL_cell_2 ?_
  refine r_icmp_geN (tgt := 12) C (by omega) (by omega) dL_cell_3 (by decide) (fun hc => ?_) (fun hc => ?_)
  · refine lv_iconst (v := nI 0) hx hb dL_cell_12 (by decide) ?_
    exact r_iretz C hM hS hz ⟨by rw [if_neg (by omega)]; rfl, rfl⟩ dL_cell_13
  · refine lv_aload_n hx hb dL_cell_6 rfl (lv_at hl 0 rfl) ?_
    refine lv_iload_n hx hb dL_cell_7 rfl (lv_at hl 1 rfl) ?_
    have e0 : (nI 0).toNatClampNeg = 0 := rfl
    refine va_sld hx hb hX (Nat.lt_of_lt_of_le hbl hN) (Nat.not_le.mpr hbl) hS (i := nI 0) (fun q => ?_) dL_cell_8 ?_
    · rcases q with q | q
      · exact nI_n0 (by omega) q
      · omega
    refine lv_goto (tgt := 13) hx hb dL_cell_9 (by decide) ?_
    exact r_iretz C hM hS hz ⟨by rw [if_pos (by omega)]; rfl, rfl⟩ dL_cell_13
/-- the law calls cell -/
theorem r_Scell {y : MethodName} (C : xC p s m args meth c cc nL rt9 own Ts D vwCl (xT kA) N0) (hM : xW D vwCl N0 M H) (hS : va_S (xA N0) s.heap H locs) (hz : zsz H z) (hX : va_X b L xs s s.heap) (hbl : b < N0) (hL : L ≤ 3073) (hT : GoodIn Ts (va_wsS own index yL_cell wsL_cell)) (hR : 1 ≤ R.frames ∧ 21 ≤ R.locals) (hl : ls.size = nL) (hrest : (rest.map fun v => v.category).sum ≤ 8) (hdg : decode cc pc = .ok (.invokestatic index, 3)) (hf : cells ≤ R.cells ∧ slots ≤ R.slots)
    (kk : ∀ (H1 : Heap) (locs1 : List Loc), xW D vwCl N0 M H1 → va_S (xA N0) s.heap H1 locs1 → zsz H1 z → W p l e R s m args below meth c H1 locs1 cells slots Q (F0 m (pc + 3) ls (.int (if 0 < L then xs 0 else 0) :: rest))) : W p l e R s m args below meth c H locs cells slots Q (F0 m pc ls (.int (nI 0) :: .ref b :: rest)) := by
  obtain ⟨hx, hb, hml, hown, hts, hr, hlocks, hK, hN⟩ := C
  have hp : PreS s H (va_Pc [.ref b, .int (nI 0)] (zX D kA N0 z b L xs M)) [.ref b, .int (nI 0)] := by
    refine ⟨fun a U g mk q => ?_, fun U hU hW => ⟨rfl, ⟨⟨by rw [hU]; exact Nat.le_trans hN hS.1, by rw [hU]; exact hM, va_K.moved hW.alike hK⟩, by rw [hU]; exact hz⟩, ?_⟩⟩
    · obtain ⟨q0, ⟨⟨q1, q2, qK⟩, q3⟩, q4⟩ := q
      exact ⟨q0, ⟨⟨q1, q2, va_K.moved (u := U) (U := U.calling g mk a) (Vm.Alike.refl U.vm) qK⟩, q3⟩, va_X.moved (u := U) (U := U.calling g mk a) (Vm.Alike.refl U.vm) q4⟩
    · rw [hU]
      exact va_X.moved hW.alike (hX.kept (hS.2.1 b (Nat.lt_of_lt_of_le hbl hN) (Nat.not_le.mpr hbl)))
  exact va_calli (va_runS ⟨hx, hb, hml, hown, hts⟩ (c_cell l D kA N0 z b L xs M hbl hL) (va_cwS 2 hts hT rfl rfl rfl ⟨by decide +kernel, by decide +kernel, (by decide +kernel : (parseMethodDescriptor yL_cell.desc).map (fun d => d.parameters.length) = some 2)⟩ ⟨hR.1, by show 8 + (2 + 11) + 0 ≤ _; omega⟩) hp rfl rfl hl rfl (lv_room hrest) hdg ⟨hf.1, hf.2⟩) hS (fun _ _ h => h) (fun _ h => h) (fun r u t H1 locs1 ht hvm hpo hB hz1 hk hS1 => by
    obtain ⟨e1, e2⟩ := hpo
    subst e1
    subst e2
    exact kk H1 locs1 (by rw [← ht]; exact hB.1.2.1) hS1 (by rw [← ht]; exact hB.2))
end LAWR
theorem L6 {L : Nat} (h : L ≤ 3073) : (nI L - nI 6).toInt = (L : Int) - 6 := by
  rw [Int32.toInt_sub, t_nI (by omega), t_nI (by omega)]
  apply Int.bmod_eq_of_le <;> omega
theorem and15 (v : Int32) : ∃ n, n < 16 ∧ v &&& nI 15 = nI n := by
  obtain ⟨k, hk, ek⟩ := wb_of32 v
  refine ⟨k % 16, by omega, ?_⟩
  rw [ek]
  exact pk_andN (by omega) 4 (by decide)
