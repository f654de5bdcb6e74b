/-! methods that throw: what they need of the start, their contracts, their rows -/
def XNS : List String := ["java/lang/IndexOutOfBoundsException", "java/lang/UnsupportedOperationException", "java/lang/IllegalArgumentException", "java/lang/IllegalStateException", "java/lang/ArithmeticException"]
def RTN : List String := ["java/lang/RuntimeException", "java/lang/Exception"]
def DCL : List String := ["java/lang/RuntimeException", "java/lang/Exception", "java/lang/Throwable"]
def SXL : List (Nat × String) := [(193, "unknown number"), (197, "number outside its range"), (202, "not in this state"), (207, "no room"), (127, "no such what"), (134, "the run has no calls"), (148, "no call was served")]
def Nx (U : State) : Prop := (∀ X ∈ XNS, va_Nw (.castable X X) U) ∧ (∀ Y ∈ DCL, va_Nw (.declares (Bundle.initS Y)) U) ∧ ∀ q ∈ SXL, ∃ a, vk_R RX4 q.1 q.2 a U
def Zx (E : En) (sz : Nat) (U : State) (H : Heap) : Prop := vx_Zq Bundle.tN "UNASSIGNED_STACK" Bundle.steD (AA E sz) U H ∧ vx_Zq Bundle.tN "SUPPRESSED_SENTINEL" Bundle.listD (AA E sz) U H
def Px (E : En) (o : Int64) (σ : St) (sz : Nat) (U : State) : Prop := Pw E o σ sz U ∧ Zx E sz U U.heap ∧ Nx U
theorem Nx.warm {s U : State} (hW : s.WarmedH U.vm) (h : Nx s) : Nx U := ⟨fun X hX => va_Nw.warmC hW (h.1 X hX), fun Y hY => va_Nw.warmD hW (h.2.1 Y hY), fun q hq => by obtain ⟨a, ha⟩ := h.2.2 q hq; exact ⟨a, vk_R.warm hW ha⟩⟩
theorem Px.blind {E : En} {o : Int64} {σ : St} {sz : Nat} {av : List Value} : FrameBlind (va_Pc av (Px E o σ sz)) := fun a U g mk q => by
  obtain ⟨q0, q1, ⟨z1, z2⟩, n⟩ := q
  refine ⟨q0, (Pw.blind (av := av) a U g mk ⟨q0, q1⟩).2, ⟨?_, ?_⟩, Nx.warm (State.WarmedH.refl U) n⟩
  · exact vx_Zq.moved (u := U) (U := U.calling g mk a) (Vm.Alike.refl U.vm) z1
  · exact vx_Zq.moved (u := U) (U := U.calling g mk a) (Vm.Alike.refl U.vm) z2
abbrev XX (E : En) (sz : Nat) (o : Int64) (res : Ex × St) : String → State → State → Prop := vx_X (fun (u : String × St) => res = (.inr u.1, u.2)) (fun E' u t => E' = u.1 ∧ Bw E (o, u.2) t) (AA E sz)
abbrev Qxi (E : En) (sz : Nat) (o : Int64) (res : Ex × St) : Array Value → State → Outcome → State → Prop := va_Qi (fun r (u : Int64 × St) => res = (.inl r, u.2) ∧ u.1 = o) (Bw E) (AA E sz)
abbrev Qxv (E : En) (sz : Nat) (o : Int64) (res : Ex × St) : Array Value → State → Outcome → State → Prop := va_Qv (fun (u : Int64 × St) => (∃ r, res = (.inl r, u.2)) ∧ u.1 = o) (Bw E) (AA E sz)
def CXI (l : Launch) (y : MethodName) (ws : List Cond) (rm : Room) (E : En) (av : List Value) (o : Int64) (σ : St) (mc ms : Nat) (res : Ex × St) : Prop := ∀ sz, vx_Met l y ws rm (va_Pc av (Px E o σ sz)) (Qxi E sz o res) (XX E sz o res) mc ms (AA E sz)
def CXV (l : Launch) (y : MethodName) (ws : List Cond) (rm : Room) (E : En) (av : List Value) (o : Int64) (σ : St) (mc ms : Nat) (res : Ex × St) : Prop := ∀ sz, vx_Met l y ws rm (va_Pc av (Px E o σ sz)) (Qxv E sz o res) (XX E sz o res) mc ms (AA E sz)
theorem bx_some {x : Option (Ex × St)} {k : Int32 → St → Option (Ex × St)} {res : Ex × St} (h : bx x k = some res) : ∃ rc, x = some rc ∧ (∀ r σ, rc = (.inl r, σ) → k r σ = some res) ∧ ∀ e σ, rc = (.inr e, σ) → res = (.inr e, σ) := by
  match x, h with
  | some (.inl a, τ), h => exact ⟨_, rfl, fun r σ e => (by cases e; exact h), fun e σ he => (by cases he)⟩
  | some (.inr a, τ), h => exact ⟨_, rfl, fun r σ e => (by cases e), fun e σ he => (by cases he; exact (Option.some.inj h).symm)⟩
section GX
variable {p : Program} {l : Launch} {e : Env} {R : Room} {s : State} {m : MethodId} {args : Array Value} {below : List Frame} {meth : Method} {c : Code} {H : Heap} {locs : List Loc} {cells slots : Nat} {Q : State → Prop}
variable {cc : ByteArray} {pc nL : Nat} {ls : Array Slot} {rest : List Value} {A : Nat → Prop} {Ts : List Cond} {own : String} {E : En} {o : Int64} {σ : St} {Qc : Array Value → State → Outcome → State → Prop} {XC : String → State → State → Prop} {res : Ex × St} {mc ms : Nat}
theorem Iv.preX (I : Iv E (AA E s.heap.size) s.heap o σ H locs) {U : State} (C : Cx p c cc nL s m args Ts own E) (hZ : Zx E s.heap.size s s.heap) (hN : Nx s) (hU : U.heap = H) (hW : s.WarmedH U.vm) : Px E o σ H.size U := by
  have hs := I.sub AA.new
  refine ⟨I.pre C hU hW, ⟨?_, ?_⟩, hN.warm hW⟩
  · rw [hU]; exact vx_Zq.moved hW.alike ((hZ.1.kept I.2.2.2.1).narrow hs)
  · rw [hU]; exact vx_Zq.moved hW.alike ((hZ.2.kept I.2.2.2.1).narrow hs)
theorem g_xbegin {g : JFrame} (I : Iv E A s.heap o σ s.heap []) (k : ∀ (H : Heap) (locs : List Loc), Iv E A s.heap o σ H locs → W p l e R s m args below meth c H locs 0 0 Q g) : W p l e R s m args below meth c s.heap [] 0 0 Q g := k s.heap [] I
theorem g_xiret (C : Cx p c cc nL s m args Ts own E) (I : Iv E (AA E s.heap.size) s.heap o σ H locs) (hr : meth.sig.returnType = some .int) (hlocks : meth.locks = false) {v : Int32} (hc : cells ≤ mc) (hs : slots ≤ ms) (hf : some ((.inl v : Ex), σ) = some res) (hdg : decode cc pc = .ok (.ireturn, 1)) :
    W p l e R s m args below meth c H locs cells slots (vx_MQ below (Qxi E s.heap.size o res) XC args s mc ms (AA E s.heap.size)) (F0 m pc ls [.int v]) := by
  cases hf
  exact W.widen hc hs (vx_ret (W.iret (v := v) C.1.1 C.1.2.1 hr (fun t ht hW => ⟨⟨v, (o, σ), rfl, ⟨rfl, rfl⟩, by rw [ht]; exact I.1, va_K.moved hW.alike C.2, gw_D I.2.1 (fun _ _ => trivial)⟩, I.2.2.F ht⟩) I.2.2.2.2 hdg hlocks))
theorem g_xvret (C : Cx p c cc nL s m args Ts own E) (I : Iv E (AA E s.heap.size) s.heap o σ H locs) (hr : meth.sig.returnType = none) (hlocks : meth.locks = false) {v : Int32} (hc : cells ≤ mc) (hs : slots ≤ ms) (hf : some ((.inl v : Ex), σ) = some res) (hdg : decode cc pc = .ok (.return_, 1)) :
    W p l e R s m args below meth c H locs cells slots (vx_MQ below (Qxv E s.heap.size o res) XC args s mc ms (AA E s.heap.size)) (F0 m pc ls []) := by
  cases hf
  exact W.widen hc hs (vx_ret (W.vret C.1.1 C.1.2.1 hr (fun t ht hW => ⟨⟨(o, σ), rfl, ⟨⟨v, rfl⟩, rfl⟩, by rw [ht]; exact I.1, va_K.moved hW.alike C.2, gw_D I.2.1 (fun _ _ => trivial)⟩, I.2.2.F ht⟩) I.2.2.2.2 hdg hlocks))
theorem Iv.kept (I : Iv E (AA E s.heap.size) s.heap o σ H locs) (C : Cx p c cc nL s m args Ts own E) {t : State} (hvm : s.vm.Alike t.vm) (hsz : H.size ≤ t.heap.size) (hk : ∀ q : Nat, q < H.size → t.heap[q]? = H[q]?) : Bw E (o, σ) t ∧ va_F (AA E s.heap.size) s t :=
  ⟨⟨I.1.kept (fun k q h => hk q.1 (I.1 k q h).lt), va_K.moved hvm C.2, gw_D I.2.1 (fun _ _ => trivial)⟩, Nat.le_trans I.2.2.1 hsz, fun q h1 h2 => (hk q (Nat.lt_of_lt_of_le h1 I.2.2.1)).trans (I.2.2.2.1 q h1 h2)⟩
theorem g_throw (C : Cx p c cc nL s m args Ts RX4 E) (I : Iv E (AA E s.heap.size) s.heap o σ H locs) (hl : l.stackTraces = false) (hZ : Zx E s.heap.size s s.heap) (hN : Nx s) (hex : ∀ x ∈ c.exceptionTable.toList, False) (hlocks : meth.locks = false) (hls : ls.size = nL) {cls text : String} {ik is ic : Nat} (hcls : Bundle.fit cls = true) (hxn : cls ∈ XNS) (hsx : (is, text) ∈ SXL) (hk : Cond.classLink RX4 ik cls ∈ Ts) (hini : Cond.initialized cls ∈ Ts) (hat : ∀ w ∈ (vx_atS RX4 ic cls RTN).filter goodWord, w ∈ Ts)
    (hng : ∀ w ∈ (vx_atS RX4 ic cls RTN).filter (fun w => !goodWord w), w ∈ [Cond.castable cls cls, Cond.declares (Bundle.initS "java/lang/RuntimeException"), Cond.declares (Bundle.initS "java/lang/Exception"), Cond.declares (Bundle.initS "java/lang/Throwable")]) (hgood : ∀ w ∈ Cond.classLink RX4 ik cls :: Cond.initialized cls :: vx_atS RX4 ic cls RTN, vx_ot w = true)
    (d0 : decode cc pc = .ok (.new ik, 3)) (d3 : decode cc (pc + 3) = .ok (.dup, 1)) (d4 : decode cc (pc + 4) = .ok (.ldc is, 2)) (d6 : decode cc (pc + 6) = .ok (.invokespecial ic, 3)) (d9 : decode cc (pc + 9) = .ok (.athrow, 1))
    (hRf : 5 < R.frames) (hRl : (rest.map fun v => v.category).sum + 82 ≤ R.locals) (hRc : cells + 1 ≤ R.cells) (hRs : slots + 6 ≤ R.slots) (hc : cells + 1 ≤ mc) (hs : slots + 6 ≤ ms) (hf : some ((.inr cls : Ex), σ) = some res) :
    W p l e R s m args below meth c H locs cells slots (vx_MQ below Qc (XX E s.heap.size o res) args s mc ms (AA E s.heap.size)) (F0 m pc ls rest) := by
  cases hf
  obtain ⟨sa, hstr⟩ := hN.2.2 (is, text) hsx
  have hts := C.1.2.2.2.2
  refine vx_throwS (names := RTN) (text := text) (sa := sa) (A := AA E s.heap.size) C.1.1 C.1.2.1 hl C.1.2.2.2.1 hcls (by decide) (hts _ hk) (hts _ hini) hstr
    (vx_hat (fun w hw => hts w (hat w hw)) hng (vx_c (va_Nw.use rfl (hN.1 cls hxn)) (vx_c (va_Nw.use rfl (hN.2.1 "java/lang/RuntimeException" (by decide))) (vx_c (va_Nw.use rfl (hN.2.1 "java/lang/Exception" (by decide))) (vx_c (va_Nw.use rfl (hN.2.1 "java/lang/Throwable" (by decide))) vx_n))))) hgood hZ.1 hZ.2 I.2.2 (by rw [hls]; exact C.1.2.2.1.symm) d0 d3 d4 d6 d9 (fun x hx => (hex x hx).elim) hRf hRl hRc hRs hlocks ?_ I.2.2.2.2 hc hs
  intro t hvm hsz hk
  obtain ⟨hB, hF⟩ := I.kept C hvm hsz hk
  exact ⟨(cls, σ), rfl, ⟨rfl, hB⟩, hF⟩
variable {y : MethodName} {bytes : ByteArray} {maxL n index : Nat} {ret : Option FieldType} {wsC : List Cond} {rm : Room} {av st : List Value} {rc : Ex × St} {kc ks : Nat}
theorem g_xsv (C : Cx p c cc nL s m args Ts own E) (I : Iv E (AA E s.heap.size) s.heap o σ H locs) (hZ : Zx E s.heap.size s s.heap) (hN : Nx s) (hex : ∀ x ∈ c.exceptionTable.toList, False) (hlocks : meth.locks = false) (hM : CXV l y wsC rm E av o σ kc ks rc) (cw : CallB R s args own index y bytes maxL ret wsC rm kc ks n ∧ (Cond.static y).before args s = true) (hn : av.length = n) (hsize : ls.size = nL) (hst : st = av.reverse ++ rest) (hW : (rest.map fun v => v.category).sum ≤ 8) (hf : cells + kc ≤ R.cells ∧ slots + ks ≤ R.slots) (hc : cells + kc ≤ mc) (hs : slots + ks ≤ ms) (ht : ∀ e σ', rc = (.inr e, σ') → res = (.inr e, σ')) (hdg : decode cc pc = .ok (.invokestatic index, 3))
    (kk : ∀ (r : Int32) (σ1 : St) (H1 : Heap) (locs1 : List Loc), rc = (.inl r, σ1) → Iv E (AA E s.heap.size) s.heap o σ1 H1 locs1 → W p l e R s m args below meth c H1 locs1 (cells + kc) (slots + ks) (vx_MQ below Qc (XX E s.heap.size o res) args s mc ms (AA E s.heap.size)) (F0 m (pc + 3) ls rest)) :
    W p l e R s m args below meth c H locs cells slots (vx_MQ below Qc (XX E s.heap.size o res) args s mc ms (AA E s.heap.size)) (F0 m pc ls st) := by
  refine vx_callv (vx_runS (As := av) (rest := rest) C.1 (hM H.size) cw ⟨Px.blind, fun U hU hW => ⟨rfl, I.preX C hZ hN hU hW⟩⟩ rfl hn hsize hst (lv_room hW) hdg hf) I.2.2 (fun q _ h => I.sub AA.new q h) (I.sub AA.new) (fun q _ h => I.sub AA.new q h) ?_ ?_
  · intro E' ce q9 u t H1 locs1 hth hvm hp hb hz hk hS hce hcv hcl
    obtain ⟨rfl, hB⟩ := hb
    refine vx_out (fun x hx => (hex x hx).elim) hlocks hce hcv hcl (fun t' ht2 hvm2 => ⟨u, ht _ _ hp, ⟨rfl, ?_⟩, hS.F ht2⟩) hS.2.2 hc hs
    exact ⟨by rw [ht2, ← hth]; exact hB.1, va_K.moved hvm2 C.2, hB.2.2⟩
  · intro u t H1 locs1 hth hvm hw hB hz hk hS
    obtain ⟨o1, σ1⟩ := u
    obtain ⟨⟨r, hr⟩, ho⟩ := hw
    cases ho
    exact kk r σ1 H1 locs1 hr (I.next hth hB hS)
end GX
theorem ng_129 : ∀ w ∈ (vx_atS RX4 129 "java/lang/IllegalArgumentException" RTN).filter (fun w => !goodWord w), w ∈ [Cond.castable "java/lang/IllegalArgumentException" "java/lang/IllegalArgumentException", Cond.declares (Bundle.initS "java/lang/RuntimeException"), Cond.declares (Bundle.initS "java/lang/Exception"), Cond.declares (Bundle.initS "java/lang/Throwable")] := by decide +kernel
theorem gd_129_125 : ∀ w ∈ Cond.classLink RX4 125 "java/lang/IllegalArgumentException" :: Cond.initialized "java/lang/IllegalArgumentException" :: vx_atS RX4 129 "java/lang/IllegalArgumentException" RTN, vx_ot w = true := by decide +kernel
theorem ng_199 : ∀ w ∈ (vx_atS RX4 199 "java/lang/IndexOutOfBoundsException" RTN).filter (fun w => !goodWord w), w ∈ [Cond.castable "java/lang/IndexOutOfBoundsException" "java/lang/IndexOutOfBoundsException", Cond.declares (Bundle.initS "java/lang/RuntimeException"), Cond.declares (Bundle.initS "java/lang/Exception"), Cond.declares (Bundle.initS "java/lang/Throwable")] := by decide +kernel
theorem gd_199_195 : ∀ w ∈ Cond.classLink RX4 195 "java/lang/IndexOutOfBoundsException" :: Cond.initialized "java/lang/IndexOutOfBoundsException" :: vx_atS RX4 199 "java/lang/IndexOutOfBoundsException" RTN, vx_ot w = true := by decide +kernel
theorem ng_204 : ∀ w ∈ (vx_atS RX4 204 "java/lang/IllegalStateException" RTN).filter (fun w => !goodWord w), w ∈ [Cond.castable "java/lang/IllegalStateException" "java/lang/IllegalStateException", Cond.declares (Bundle.initS "java/lang/RuntimeException"), Cond.declares (Bundle.initS "java/lang/Exception"), Cond.declares (Bundle.initS "java/lang/Throwable")] := by decide +kernel
theorem gd_204_200 : ∀ w ∈ Cond.classLink RX4 200 "java/lang/IllegalStateException" :: Cond.initialized "java/lang/IllegalStateException" :: vx_atS RX4 204 "java/lang/IllegalStateException" RTN, vx_ot w = true := by decide +kernel
theorem ng_209 : ∀ w ∈ (vx_atS RX4 209 "java/lang/UnsupportedOperationException" RTN).filter (fun w => !goodWord w), w ∈ [Cond.castable "java/lang/UnsupportedOperationException" "java/lang/UnsupportedOperationException", Cond.declares (Bundle.initS "java/lang/RuntimeException"), Cond.declares (Bundle.initS "java/lang/Exception"), Cond.declares (Bundle.initS "java/lang/Throwable")] := by decide +kernel
theorem gd_209_205 : ∀ w ∈ Cond.classLink RX4 205 "java/lang/UnsupportedOperationException" :: Cond.initialized "java/lang/UnsupportedOperationException" :: vx_atS RX4 209 "java/lang/UnsupportedOperationException" RTN, vx_ot w = true := by decide +kernel
theorem ng_136 : ∀ w ∈ (vx_atS RX4 136 "java/lang/ArithmeticException" RTN).filter (fun w => !goodWord w), w ∈ [Cond.castable "java/lang/ArithmeticException" "java/lang/ArithmeticException", Cond.declares (Bundle.initS "java/lang/RuntimeException"), Cond.declares (Bundle.initS "java/lang/Exception"), Cond.declares (Bundle.initS "java/lang/Throwable")] := by decide +kernel
theorem gd_136_132 : ∀ w ∈ Cond.classLink RX4 132 "java/lang/ArithmeticException" :: Cond.initialized "java/lang/ArithmeticException" :: vx_atS RX4 136 "java/lang/ArithmeticException" RTN, vx_ot w = true := by decide +kernel
