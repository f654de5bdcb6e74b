/-! the law's helpers: what they need of the start, rows -/
def NCL : List (String × String) := [("java/lang/UnsupportedOperationException", "java/lang/IndexOutOfBoundsException"), ("java/lang/IllegalStateException", "java/lang/IllegalArgumentException"), ("java/lang/UnsupportedOperationException", "java/lang/IllegalArgumentException"), ("java/lang/UnsupportedOperationException", "java/lang/IllegalStateException"), ("java/lang/IndexOutOfBoundsException", "java/lang/IllegalArgumentException"), ("java/lang/IllegalStateException", "java/lang/IndexOutOfBoundsException"), ("java/lang/ArithmeticException", "java/lang/IllegalArgumentException")]
def Ny (U : State) : Prop := ∀ q ∈ NCL, va_Nc q.1 q.2 U
def Py (E : En) (o : Int64) (σ : St) (sz : Nat) (U : State) : Prop := Px E o σ sz U ∧ Ny U
theorem Ny.moved {s U : State} (hvm : s.vm.Alike U.vm) (h : Ny s) : Ny U := fun q hq => (h q hq).moved hvm
theorem Py.blind {E : En} {o : Int64} {σ : St} {sz : Nat} {av : List Value} : FrameBlind (va_Pc av (Py E o σ sz)) := fun a U g mk q => by
  obtain ⟨q0, q1, q2⟩ := q
  exact ⟨q0, (Px.blind (av := av) a U g mk ⟨q0, q1⟩).2, Ny.moved (s := U) (U := U.calling g mk a) (Vm.Alike.refl U.vm) q2⟩
abbrev QH (E : En) (sz : Nat) (k : Int32) (o' : Int64) (σ' : St) : Array Value → State → Outcome → State → Prop := va_Qi (fun r' (u : Int64 × St) => r' = k ∧ u = (o', σ')) (Bw E) (AA E sz)
def CH (l : Launch) (y : MethodName) (ws : List Cond) (rm : Room) (E : En) (av : List Value) (o : Int64) (σ : St) (mc ms : Nat) (k : Int32) (o' : Int64) (σ' : St) : Prop := ∀ sz, Met l y ws rm (va_Pc av (Py E o σ sz)) (QH E sz k o' σ') mc ms (AA E sz)
/-- what a helper answers of what the class did: 0 and the value; or the number of the catch -/
def Hk (L : List String) (res : Ex × St) (o : Int64) (k : Int32) (o' : Int64) : Prop := (∃ r, res.1 = .inl r ∧ k = 0 ∧ o' = r.toInt64) ∨ ∃ (i : Nat) (e : String), res.1 = .inr e ∧ L[i]? = some e ∧ k = nI (i + 1) ∧ o' = o
def HkV (L : List String) (res : Ex × St) (o : Int64) (k : Int32) (o' : Int64) : Prop := (∃ r, res.1 = .inl r ∧ k = 0 ∧ o' = o) ∨ ∃ (i : Nat) (e : String), res.1 = .inr e ∧ L[i]? = some e ∧ k = nI (i + 1) ∧ o' = o
theorem gk_out (E : En) (o x : Int64) : ∀ {k : Nat}, k < 56 → ∀ r : Nat → Int32, gk E o k r = gk E x k r := fun {k} hk r => by
  match k, hk with
  | 0, _ => rfl
  | 1, _ => rfl
  | 2, _ => rfl
  | 3, _ => rfl
  | 4, _ => rfl
  | 5, _ => rfl
  | 6, _ => rfl
  | 7, _ => rfl
  | 8, _ => rfl
  | 9, _ => rfl
  | 10, _ => rfl
  | 11, _ => rfl
  | 12, _ => rfl
  | 13, _ => rfl
  | 14, _ => rfl
  | 15, _ => rfl
  | 16, _ => rfl
  | 17, _ => rfl
  | 18, _ => rfl
  | 19, _ => rfl
  | 20, _ => rfl
  | 21, _ => rfl
  | 22, _ => rfl
  | 23, _ => rfl
  | 24, _ => rfl
  | 25, _ => rfl
  | 26, _ => rfl
  | 27, _ => rfl
  | 28, _ => rfl
  | 29, _ => rfl
  | 30, _ => rfl
  | 31, _ => rfl
  | 32, _ => rfl
  | 33, _ => rfl
  | 34, _ => rfl
  | 35, _ => rfl
  | 36, _ => rfl
  | 37, _ => rfl
  | 38, _ => rfl
  | 39, _ => rfl
  | 40, _ => rfl
  | 41, _ => rfl
  | 42, _ => rfl
  | 43, _ => rfl
  | 44, _ => rfl
  | 45, _ => rfl
  | 46, _ => rfl
  | 47, _ => rfl
  | 48, _ => rfl
  | 49, _ => rfl
  | 50, _ => rfl
  | 51, _ => rfl
  | 52, _ => rfl
  | 53, _ => rfl
  | 54, _ => rfl
  | 55, _ => rfl
  | n + 56, h => omega
theorem arrV_one (c : ClassId) {f g : Nat → Value} (h : f 0 = g 0) : arrV c 1 f = arrV c 1 g := by
  unfold arrV
  congr 2
  funext j
  have : j.val = 0 := by omega
  rw [this, h]
theorem gw_out {E : En} {o x : Int64} {σ : St} {H : Heap} {f : Nat → Int64} (hf : f 0 = x) (hP : va_P E.2.2 vwCl ((gw E o σ).set 56 (ad E 56, .inl (E.2.1 3, 1, .inr (.inl f)))) H) : va_P E.2.2 vwCl (gw E x σ) H := by
  intro k q hk
  obtain ⟨h1, -⟩ := gw_ad _ _ _ hk
  rw [gw_at E x σ h1] at hk
  cases hk
  by_cases e : k = 56
  · subst e
    have h2 := hP 56 _ (List.getElem?_set_self (by rw [gw_len]; decide))
    have h3 : H[ad E 56]? = some (vp_cell (E.2.1 3) (1, .inr (.inl f))) := h2
    show H[ad E 56]? = some (vp_cell (E.2.1 3) (1, .inr (.inl (fun _ => x))))
    rw [h3, vp_cell_l, vp_cell_l, arrV_one (E.2.1 3) (g := fun _ => Value.long x) (by rw [hf])]
  · rw [gk_out E x o (by have : k < 57 := h1; omega)]
    exact hP k _ ((List.getElem?_set_ne (Ne.symm e)).trans (gw_at E o σ h1))
section GH
variable {p : Program} {l : Launch} {e : Env} {R : Room} {s : State} {m : MethodId} {args : Array Value} {below : List Frame} {meth : Method} {c : Code} {H : Heap} {locs : List Loc} {cells slots : Nat} {Q : State → Prop}
variable {cc : ByteArray} {pc nL : Nat} {ls : Array Slot} {rest : List Value} {A : Nat → Prop} {H0 : Heap} {Ts : List Cond} {own : String} {E : En} {o : Int64} {σ : St}
theorem g_last (C : Cx p c cc nL s m args Ts own E) (I : Iv E A H0 o σ H locs) {x : Int64} (hdg : decode cc pc = .ok (.lastore, 1))
    (kk : ∀ (H1 : Heap) (locs1 : List Loc), Iv E A H0 x σ H1 locs1 → W p l e R s m args below meth c H1 locs1 cells slots Q (F0 m (pc + 1) ls rest)) : W p l e R s m args below meth c H locs cells slots Q (F0 m pc ls (.long x :: .int 0 :: .ref (ad E 56) :: rest)) :=
  va_last C.1.1 C.1.2.1 C.2 I.1 I.2.1 I.2.2 56 3 ((gw_at E o σ (show 56 < NW by decide)).trans (by rw [gk_56])) rfl (vp_in_nI (n := 0) (N := 1) (by decide) (by decide)) hdg (fun H1 locs1 h1 h2 h3 => kk H1 locs1 ⟨gw_out (by simp [vp_updL]) h1, gw_D I.2.1 (gw_A I.2.1), h3⟩)
theorem g_lald (C : Cx p c cc nL s m args Ts own E) (I : Iv E A H0 o σ H locs) (hdg : decode cc pc = .ok (.laload, 1))
    (kk : W p l e R s m args below meth c H locs cells slots Q (F0 m (pc + 1) ls (.long o :: rest))) : W p l e R s m args below meth c H locs cells slots Q (F0 m pc ls (.int 0 :: .ref (ad E 56) :: rest)) :=
  va_lald C.1.1 C.1.2.1 C.2 I.1 56 3 (f := fun _ => o) ((gw_at E o σ (show 56 < NW by decide)).trans (by rw [gk_56])) rfl (vp_in_nI (n := 0) (N := 1) (by decide) (by decide)) hdg kk
theorem g_hret (C : Cx p c cc nL s m args Ts own E) (I : Iv E (AA E s.heap.size) s.heap o σ H locs) (hr : meth.sig.returnType = some .int) (hlocks : meth.locks = false) {v k : Int32} {o' : Int64} {σ' : St} {mc ms : Nat} (hk : v = k ∧ (o, σ) = (o', σ')) (hc : cells ≤ mc) (hs : slots ≤ ms) (hdg : decode cc pc = .ok (.ireturn, 1)) :
    W p l e R s m args below meth c H locs cells slots (MQ below (QH E s.heap.size k o' σ') args s mc ms (AA E s.heap.size)) (F0 m pc ls [.int v]) :=
  W.widen hc hs (W.iret (v := v) C.1.1 C.1.2.1 hr (fun t ht hW => ⟨⟨v, (o, σ), rfl, hk, by rw [ht]; exact I.1, va_K.moved hW.alike C.2, gw_D I.2.1 (fun _ _ => trivial)⟩, I.2.2.F ht⟩) I.2.2.2.2 hdg hlocks)
variable {y : MethodName} {bytes : ByteArray} {maxL n index : Nat} {ret : Option FieldType} {wsC : List Cond} {rm : Room} {av st : List Value} {rc : Ex × St} {kc ks : Nat}
theorem g_tryi (C : Cx p c cc nL s m args Ts own E) (I : Iv E (AA E s.heap.size) s.heap o σ H locs) (hZ : Zx E s.heap.size s s.heap) (hN : Nx s) (hM : CXI l y wsC rm E (.ref (ad E 0) :: av) o σ kc ks rc) (cw : CallW R s args own RX4 index y bytes maxL ret wsC rm kc ks n) (hn : av.length = n) (hsize : ls.size = nL) (hst : st = av.reverse ++ .ref (ad E 0) :: rest) (hW : (rest.map fun v => v.category).sum ≤ 8) (hf : cells + kc ≤ R.cells ∧ slots + ks ≤ R.slots) (hdg : decode cc pc = .ok (.invokevirtual index, 3))
    (kx : ∀ (x : String) (σ1 : St) (ce : Cell) (q9 : Addr) (H1 : Heap) (locs1 : List Loc), rc = (.inr x, σ1) → Iv E (AA E s.heap.size) s.heap o σ1 H1 locs1 → H1[q9]? = some ce → ce.vm = .none → s.vm.findClass x = some ce.cls → vx_W p l e R s m args below meth c H1 locs1 (cells + kc) (slots + ks) Q (F0 m pc ls rest) q9)
    (kk : ∀ (r : Int32) (σ1 : St) (H1 : Heap) (locs1 : List Loc), rc = (.inl r, σ1) → Iv E (AA E s.heap.size) s.heap o σ1 H1 locs1 → W p l e R s m args below meth c H1 locs1 (cells + kc) (slots + ks) Q (F0 m (pc + 3) ls (.int r :: rest))) :
    W p l e R s m args below meth c H locs cells slots Q (F0 m pc ls st) := by
  refine vx_calli (vx_runV (As := av) (rest := rest) C.1 (hM H.size) cw ⟨Px.blind, va_recv C.2 I.1 (ci := 4) rfl ((gw_at E o σ (show 0 < NW by decide)).trans (by rw [gk_0])), fun U hU hW => ⟨rfl, I.preX C hZ hN hU hW⟩⟩ rfl hn hsize hst (lv_room hW) hdg hf) I.2.2 (fun q _ h => I.sub AA.new q h) (I.sub AA.new) (fun q _ h => I.sub AA.new q h) ?_ ?_
  · intro E' ce q9 u t H1 locs1 hth hvm hp hb hz hk hS hce hcv hcl
    obtain ⟨rfl, hB⟩ := hb
    exact kx u.1 u.2 ce q9 H1 locs1 hp (I.next hth hB hS) hce hcv hcl
  · intro r u t H1 locs1 hth hvm hw hB hz hk hS
    obtain ⟨o1, σ1⟩ := u
    obtain ⟨hr, ho⟩ := hw
    cases ho
    exact kk r σ1 H1 locs1 hr (I.next hth hB hS)
theorem g_tryv (C : Cx p c cc nL s m args Ts own E) (I : Iv E (AA E s.heap.size) s.heap o σ H locs) (hZ : Zx E s.heap.size s s.heap) (hN : Nx s) (hM : CXV l y wsC rm E (.ref (ad E 0) :: av) o σ kc ks rc) (cw : CallW R s args own RX4 index y bytes maxL ret wsC rm kc ks n) (hn : av.length = n) (hsize : ls.size = nL) (hst : st = av.reverse ++ .ref (ad E 0) :: rest) (hW : (rest.map fun v => v.category).sum ≤ 8) (hf : cells + kc ≤ R.cells ∧ slots + ks ≤ R.slots) (hdg : decode cc pc = .ok (.invokevirtual index, 3))
    (kx : ∀ (x : String) (σ1 : St) (ce : Cell) (q9 : Addr) (H1 : Heap) (locs1 : List Loc), rc = (.inr x, σ1) → Iv E (AA E s.heap.size) s.heap o σ1 H1 locs1 → H1[q9]? = some ce → ce.vm = .none → s.vm.findClass x = some ce.cls → vx_W p l e R s m args below meth c H1 locs1 (cells + kc) (slots + ks) Q (F0 m pc ls rest) q9)
    (kk : ∀ (r : Int32) (σ1 : St) (H1 : Heap) (locs1 : List Loc), rc = (.inl r, σ1) → Iv E (AA E s.heap.size) s.heap o σ1 H1 locs1 → W p l e R s m args below meth c H1 locs1 (cells + kc) (slots + ks) Q (F0 m (pc + 3) ls rest)) :
    W p l e R s m args below meth c H locs cells slots Q (F0 m pc ls st) := by
  refine vx_callv (vx_runV (As := av) (rest := rest) C.1 (hM H.size) cw ⟨Px.blind, va_recv C.2 I.1 (ci := 4) rfl ((gw_at E o σ (show 0 < NW by decide)).trans (by rw [gk_0])), fun U hU hW => ⟨rfl, I.preX C hZ hN hU hW⟩⟩ rfl hn hsize hst (lv_room hW) hdg hf) I.2.2 (fun q _ h => I.sub AA.new q h) (I.sub AA.new) (fun q _ h => I.sub AA.new q h) ?_ ?_
  · intro E' ce q9 u t H1 locs1 hth hvm hp hb hz hk hS hce hcv hcl
    obtain ⟨rfl, hB⟩ := hb
    exact kx u.1 u.2 ce q9 H1 locs1 hp (I.next hth hB hS) hce hcv hcl
  · intro u t H1 locs1 hth hvm hw hB hz hk hS
    obtain ⟨o1, σ1⟩ := u
    obtain ⟨⟨r, hr⟩, ho⟩ := hw
    cases ho
    exact kk r σ1 H1 locs1 hr (I.next hth hB hS)
end GH
