/-! the law: rows -/
theorem Op.law {L : List String} {fx : St → Option (Ex × St)} {fm : St → Option (Int32 × St)} (h : Op L fx fm) (hL : L.length ≤ 10) {σ : St} (I : Inv σ) (o : Int64) : ∃ rx σ1 rm σ2 k o2, fx σ = some (rx, σ1) ∧ fm σ1 = some (rm, σ2) ∧ Inv σ2 ∧ Hk L (rx, σ1) o k o2 ∧ σ2 39 0 = k ∧ (k = 0 → o2 = rm.toInt64) := by
  obtain ⟨rx, σ1, rm, σ2, e1, e2, I2, oc⟩ := h.seq I
  rcases oc with ⟨r, h1, h2, h3⟩ | ⟨i, x, h1, h2, h3⟩
  · exact ⟨rx, σ1, rm, σ2, 0, r.toInt64, e1, e2, I2, Or.inl ⟨r, h1, rfl, rfl⟩, h2, fun _ => by rw [h3]⟩
  · refine ⟨rx, σ1, rm, σ2, nI (i + 1), o, e1, e2, I2, Or.inr ⟨i, x, h1, h2, rfl, rfl⟩, h3, fun z => ?_⟩
    have hi : i < L.length := (List.getElem?_eq_some_iff.mp h2).1
    exact absurd z (nI_ne0 (by omega) (by omega))
theorem Op.lawV {L : List String} {fx : St → Option (Ex × St)} {fm : St → Option (Int32 × St)} (h : Op L fx fm) {σ : St} (I : Inv σ) (o : Int64) : ∃ rx σ1 rm σ2 k o2, fx σ = some (rx, σ1) ∧ fm σ1 = some (rm, σ2) ∧ Inv σ2 ∧ HkV L (rx, σ1) o k o2 ∧ σ2 39 0 = k := by
  obtain ⟨rx, σ1, rm, σ2, e1, e2, I2, oc⟩ := h.seq I
  rcases oc with ⟨r, h1, h2, h3⟩ | ⟨i, x, h1, h2, h3⟩
  · exact ⟨rx, σ1, rm, σ2, 0, o, e1, e2, I2, Or.inl ⟨r, h1, rfl, rfl⟩, h2⟩
  · exact ⟨rx, σ1, rm, σ2, nI (i + 1), o, e1, e2, I2, Or.inr ⟨i, x, h1, h2, rfl, rfl⟩, h3⟩
theorem f_thrown (σ : St) : f_X5_thrown σ = some (σ 39 0, σ) := rfl
abbrev AL (s : State) : Nat → Prop := fun q => s.heap.size ≤ q
def ZL (A : Nat → Prop) (U : State) (H : Heap) : Prop := vx_Zq Bundle.tN "UNASSIGNED_STACK" Bundle.steD A U H ∧ vx_Zq Bundle.tN "SUPPRESSED_SENTINEL" Bundle.listD A U H
/-- what stands all through the law -/
def Lx (p : Program) (l : Launch) (c : Code) (s : State) (m : MethodId) (meth : Method) (E : En) (b L : Nat) (xs : Nat → Int32) : Prop := Cx p c cL_law 7 s m #[Value.ref b] wsL_law RL E ∧ l.stackTraces = false ∧ meth.locks = false ∧ meth.sig.returnType = ret ∧ ZL (AL s) s s.heap ∧ Nx s ∧ Ny s ∧ va_X b L xs s s.heap ∧ b < s.heap.size ∧ L ≤ 3584
abbrev LW (p : Program) (l : Launch) (e : Env) (s : State) (m : MethodId) (b : Nat) (below : List Frame) (meth : Method) (c : Code) (H : Heap) (locs : List Loc) (cells slots : Nat) (g : JFrame) : Prop := W p l e room_1 s m #[Value.ref b] below meth c H locs cells slots (lw_Z below #[Value.ref b] s) g
abbrev lvL (E : En) (b i : Nat) : List (Nat × Value) := [(4, .int (nI i)), (0, .ref b), (1, .ref (ad E 0)), (2, .ref (ad E 39)), (3, .ref (ad E 56))]
/-- the loop's head, from the next round on -/
def Nxt (p : Program) (l : Launch) (e : Env) (s : State) (m : MethodId) (b : Nat) (below : List Frame) (meth : Method) (c : Code) (E : En) (i cells slots : Nat) : Prop := ∀ (o : Int64) (σ : St) (H : Heap) (locs : List Loc) (ls : Array Slot) (cl sl : Nat), cl ≤ cells + 3 → sl ≤ slots + 18 → Inv σ → Iv E (AL s) s.heap o σ H locs → lv_has ls 7 (lvL E b (i + 7)) → LW p l e s m b below meth c H locs cl sl (F0 m 23 ls [])
section GL
variable {p : Program} {l : Launch} {e : Env} {R : Room} {s : State} {m : MethodId} {args : Array Value} {below : List Frame} {meth : Method} {c : Code} {H : Heap} {locs : List Loc} {cells slots : Nat} {Q : State → Prop}
variable {cc : ByteArray} {pc nL : Nat} {ls : Array Slot} {rest : List Value} {Ts : List Cond} {own : String} {E : En} {o : Int64} {σ : St}
theorem Iv.preL (I : Iv E (AL s) s.heap o σ H locs) (C : Cx p c cc nL s m args Ts own E) (hZ : ZL (AL s) s s.heap) (hN : Nx s) (hNy : Ny s) {U : State} (hU : U.heap = H) (hW : s.WarmedH U.vm) : Py E o σ H.size U := by
  have hs := I.sub (fun _ h => h)
  refine ⟨⟨I.pre C hU hW, ⟨?_, ?_⟩, hN.warm hW⟩, hNy.moved hW.alike⟩
  · rw [hU]; exact vx_Zq.moved hW.alike ((hZ.1.kept I.2.2.2.1).narrow hs)
  · rw [hU]; exact vx_Zq.moved hW.alike ((hZ.2.kept I.2.2.2.1).narrow hs)
variable {y : MethodName} {bytes : ByteArray} {maxL n index : Nat} {ret : Option FieldType} {hh : List (Nat × Nat × Nat × Nat)} {wsC : List Cond} {rm : Room} {av st : List Value} {kc ks : Nat}
theorem g_help (C : Cx p c cc nL s m args Ts own E) (I : Iv E (AL s) s.heap o σ H locs) (hZ : ZL (AL s) s s.heap) (hN : Nx s) (hNy : Ny s) {k : Int32} {o2 : Int64} {σ2 : St} (hM : CH l y wsC rm E av o σ kc ks k o2 σ2) (cw : vx_CSW R s args own index y bytes maxL ret hh wsC rm kc ks n) (hn : av.length = n) (hsize : ls.size = nL) (hst : st = av.reverse ++ rest) (hW : (rest.map fun v => v.category).sum ≤ 8) (hf : cells + kc ≤ R.cells ∧ slots + ks ≤ R.slots) (hdg : decode cc pc = .ok (.invokestatic index, 3))
    (kk : ∀ (H1 : Heap) (locs1 : List Loc), Iv E (AL s) s.heap o2 σ2 H1 locs1 → W p l e R s m args below meth c H1 locs1 (cells + kc) (slots + ks) Q (F0 m (pc + 3) ls (.int k :: rest))) : W p l e R s m args below meth c H locs cells slots Q (F0 m pc ls st) :=
  va_calli (vx_runSW (As := av) (rest := rest) C.1 (hM H.size) cw ⟨Py.blind, fun U hU hW => ⟨rfl, I.preL C hZ hN hNy hU hW⟩⟩ rfl hn hsize hst (lv_room hW) hdg hf) I.2.2 (fun q _ h => I.sub (fun _ h => h) q h) (I.sub (fun _ h => h))
    (fun r' u t H1 locs1 ht hvm hw hB hz1 hk1 hS => by obtain ⟨rfl, rfl⟩ := hw; exact kk H1 locs1 (I.next ht hB hS))
theorem g_sld (hx : p.tables.exec = Jvm.exec) (hb : c.code = cc) {b L : Nat} {xs : Nat → Int32} (hX : va_X b L xs s s.heap) (hbl : b < s.heap.size) (I : Iv E (AL s) s.heap o σ H locs) {i j : Nat} {x : Int32} (hj : i + j < L) (hL : L ≤ 3584) (ex : x = nI (i + j)) (hdg : decode cc pc = .ok (.iaload, 1))
    (kk : W p l e R s m args below meth c H locs cells slots Q (F0 m (pc + 1) ls (.int (xs (i + j)) :: rest))) : W p l e R s m args below meth c H locs cells slots Q (F0 m pc ls (.int x :: .ref b :: rest)) := by
  subst ex
  refine va_sld hx hb hX hbl (Nat.not_le.mpr hbl) I.2.2 (vp_in_nI hj (by omega)) hdg ?_
  rw [nI_clamp (by omega)]
  exact kk
end GL
