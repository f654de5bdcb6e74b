/-! the law: its start -/
theorem inv_0 : Inv σ0 := by
  refine ⟨0, 0, 0, fun _ => 0, fun _ => 0, fun _ => 0, fun _ => 0, fun _ => 0, 1, 10, fun _ _ => none, 0, ⟨⟨by omega, by omega, by omega, by omega, by omega, by omega⟩, ⟨rfl, rfl, rfl, rfl, rfl, rfl⟩, fun s h => absurd h (Nat.not_lt_zero s), fun a h => absurd h (Nat.not_lt_zero a), fun v u _ h => absurd h (Nat.not_lt_zero u)⟩, ⟨⟨rfl, rfl, rfl, rfl, rfl⟩, fun s h => absurd h (Nat.not_lt_zero s), fun a h => absurd h (Nat.not_lt_zero a), fun v u _ h => absurd h (Nat.not_lt_zero u)⟩, ⟨by omega, rfl, rfl⟩, fun i h => absurd h (Nat.not_lt_zero i), fun u _ => rfl, rfl⟩
theorem ch_x {c : Nat} : ∀ {k : Nat}, k < 39 → ch k c → c < 39
  | 0, _, h => by change c = 1 ∨ c = 7 ∨ c = 13 at h; omega
  | 1, _, h => by change c = 2 ∨ c = 3 ∨ c = 4 ∨ c = 5 ∨ c = 6 at h; omega
  | 2, _, h => False.elim h
  | 3, _, h => False.elim h
  | 4, _, h => False.elim h
  | 5, _, h => False.elim h
  | 6, _, h => False.elim h
  | 7, _, h => by change c = 8 at h; omega
  | 8, _, h => by change 9 ≤ c ∧ c < 13 at h; omega
  | 9, _, h => False.elim h
  | 10, _, h => False.elim h
  | 11, _, h => False.elim h
  | 12, _, h => False.elim h
  | 13, _, h => by change c = 34 ∨ c = 14 ∨ c = 15 ∨ c = 16 ∨ c = 17 ∨ c = 18 ∨ c = 19 ∨ c = 32 ∨ c = 33 at h; omega
  | 14, _, h => False.elim h
  | 15, _, h => False.elim h
  | 16, _, h => False.elim h
  | 17, _, h => False.elim h
  | 18, _, h => False.elim h
  | 19, _, h => by change 20 ≤ c ∧ c < 32 at h; omega
  | 20, _, h => False.elim h
  | 21, _, h => False.elim h
  | 22, _, h => False.elim h
  | 23, _, h => False.elim h
  | 24, _, h => False.elim h
  | 25, _, h => False.elim h
  | 26, _, h => False.elim h
  | 27, _, h => False.elim h
  | 28, _, h => False.elim h
  | 29, _, h => False.elim h
  | 30, _, h => False.elim h
  | 31, _, h => False.elim h
  | 32, _, h => False.elim h
  | 33, _, h => False.elim h
  | 34, _, h => by change c = 35 ∨ c = 36 ∨ c = 37 ∨ c = 38 at h; omega
  | 35, _, h => False.elim h
  | 36, _, h => False.elim h
  | 37, _, h => False.elim h
  | 38, _, h => False.elim h
  | 39, hk, _ => by omega
  | 40, hk, _ => by omega
  | 41, hk, _ => by omega
  | 42, hk, _ => by omega
  | 43, hk, _ => by omega
  | 44, hk, _ => by omega
  | 45, hk, _ => by omega
  | 46, hk, _ => by omega
  | 47, hk, _ => by omega
  | 48, hk, _ => by omega
  | 49, hk, _ => by omega
  | 50, hk, _ => by omega
  | 51, hk, _ => by omega
  | 52, hk, _ => by omega
  | 53, hk, _ => by omega
  | 54, hk, _ => by omega
  | 55, hk, _ => by omega
  | 56, hk, _ => by omega
  | n + 57, hk, _ => by omega
theorem ch_m {c : Nat} : ∀ {k : Nat}, 39 ≤ k ∧ k < 56 → ch k c → 39 ≤ c ∧ c < 56
  | 0, hk, _ => by omega
  | 1, hk, _ => by omega
  | 2, hk, _ => by omega
  | 3, hk, _ => by omega
  | 4, hk, _ => by omega
  | 5, hk, _ => by omega
  | 6, hk, _ => by omega
  | 7, hk, _ => by omega
  | 8, hk, _ => by omega
  | 9, hk, _ => by omega
  | 10, hk, _ => by omega
  | 11, hk, _ => by omega
  | 12, hk, _ => by omega
  | 13, hk, _ => by omega
  | 14, hk, _ => by omega
  | 15, hk, _ => by omega
  | 16, hk, _ => by omega
  | 17, hk, _ => by omega
  | 18, hk, _ => by omega
  | 19, hk, _ => by omega
  | 20, hk, _ => by omega
  | 21, hk, _ => by omega
  | 22, hk, _ => by omega
  | 23, hk, _ => by omega
  | 24, hk, _ => by omega
  | 25, hk, _ => by omega
  | 26, hk, _ => by omega
  | 27, hk, _ => by omega
  | 28, hk, _ => by omega
  | 29, hk, _ => by omega
  | 30, hk, _ => by omega
  | 31, hk, _ => by omega
  | 32, hk, _ => by omega
  | 33, hk, _ => by omega
  | 34, hk, _ => by omega
  | 35, hk, _ => by omega
  | 36, hk, _ => by omega
  | 37, hk, _ => by omega
  | 38, hk, _ => by omega
  | 39, _, h => by change c = 40 ∨ c = 41 ∨ c = 42 ∨ c = 43 ∨ c = 44 ∨ c = 45 ∨ c = 46 ∨ c = 47 ∨ c = 48 ∨ c = 49 ∨ c = 50 ∨ c = 51 ∨ c = 52 ∨ c = 53 ∨ c = 54 ∨ c = 55 at h; omega
  | 40, _, h => False.elim h
  | 41, _, h => False.elim h
  | 42, _, h => False.elim h
  | 43, _, h => False.elim h
  | 44, _, h => False.elim h
  | 45, _, h => False.elim h
  | 46, _, h => False.elim h
  | 47, _, h => False.elim h
  | 48, _, h => False.elim h
  | 49, _, h => False.elim h
  | 50, _, h => False.elim h
  | 51, _, h => False.elim h
  | 52, _, h => False.elim h
  | 53, _, h => False.elim h
  | 54, _, h => False.elim h
  | 55, _, h => False.elim h
  | 56, hk, _ => by omega
  | n + 57, hk, _ => by omega
theorem gw_split (E : En) (o : Int64) (σ : St) : gw E o σ = (gs [0, 1, 2, 3, 4, 5, 6, 7, 8, 9, 10, 11, 12, 13, 14, 15, 16, 17, 18, 19, 20, 21, 22, 23, 24, 25, 26, 27, 28, 29, 30, 31, 32, 33, 34, 35, 36, 37, 38] E o σ ++ gs [39, 40, 41, 42, 43, 44, 45, 46, 47, 48, 49, 50, 51, 52, 53, 54, 55] E o σ) ++ [(ad E 56, gk E o 56 (σ 56))] := rfl
theorem arr_known {args : Array Value} {s : State} {ty : FieldType} (h : (Cond.arrayClass ty).before args s = true) (hty : ∀ C, ty ≠ .object C) : ∃ c, ArrOfT s c ty ∧ va_RA s c ty := by
  obtain ⟨c, k, comp, h1, h2, h3⟩ := Cond.arrayClass_spec h
  refine ⟨c, fun n z => ⟨fun k h => (by cases h), k, h2, comp, h3⟩, ?_⟩
  cases ty with
  | object C => exact absurd rfl (hty C)
  | _ => exact h1
theorem arr_known2 {args : Array Value} {s : State} (h : (Cond.arrayOver (.array .int)).before args s = true) : ∃ c, ArrOfT s c (.array .int) ∧ va_RA s c (.array .int) := by
  obtain ⟨comp, c, k, -, h1, h2, h3⟩ := Cond.arrayOver_specA h
  exact ⟨c, fun n z => ⟨fun k h => (by cases h), k, h1, comp, h2⟩, h3⟩
theorem str_known {args : Array Value} {s : State} {k : Nat} {tx : String} (h1 : (Cond.stringRef RX4 k tx).before args s = true) (h2 : (Cond.exactly (.string RX4 k) "java/lang/String").before args s = true) : ∃ a, vk_R RX4 k tx a s := by
  obtain ⟨a, c0, cell, kA, ha, -⟩ := Cond.exactly_spec h2
  exact ⟨a, vk_R.of h1 ha⟩
theorem nx_0 {b : Nat} {s : State} (hts : ∀ w ∈ lw_tbl, w.before #[Value.ref b] s = true) (hs : ∀ w ∈ flatC (Jvm.Cond.and given_1 narrow_1), w.before #[Value.ref b] s = true) : Nx s := by
  refine ⟨List.forall_mem_cons.mpr ⟨va_Nw.of rfl (hts (Cond.castable "java/lang/IndexOutOfBoundsException" "java/lang/IndexOutOfBoundsException") (by decide +kernel)), List.forall_mem_cons.mpr ⟨va_Nw.of rfl (hts (Cond.castable "java/lang/UnsupportedOperationException" "java/lang/UnsupportedOperationException") (by decide +kernel)), List.forall_mem_cons.mpr ⟨va_Nw.of rfl (hts (Cond.castable "java/lang/IllegalArgumentException" "java/lang/IllegalArgumentException") (by decide +kernel)), List.forall_mem_cons.mpr ⟨va_Nw.of rfl (hts (Cond.castable "java/lang/IllegalStateException" "java/lang/IllegalStateException") (by decide +kernel)), List.forall_mem_cons.mpr ⟨va_Nw.of rfl (hts (Cond.castable "java/lang/ArithmeticException" "java/lang/ArithmeticException") (by decide +kernel)), fun _ h => absurd h List.not_mem_nil⟩⟩⟩⟩⟩, List.forall_mem_cons.mpr ⟨va_Nw.of rfl (hts (Cond.declares (Bundle.initS "java/lang/RuntimeException")) (by decide +kernel)), List.forall_mem_cons.mpr ⟨va_Nw.of rfl (hts (Cond.declares (Bundle.initS "java/lang/Exception")) (by decide +kernel)), List.forall_mem_cons.mpr ⟨va_Nw.of rfl (hts (Cond.declares (Bundle.initS "java/lang/Throwable")) (by decide +kernel)), fun _ h => absurd h List.not_mem_nil⟩⟩⟩, List.forall_mem_cons.mpr ⟨str_known (hts (Cond.stringRef RX4 193 "unknown number") (by decide +kernel)) (hs (Cond.exactly (.string RX4 193) "java/lang/String") (by decide +kernel)), List.forall_mem_cons.mpr ⟨str_known (hts (Cond.stringRef RX4 197 "number outside its range") (by decide +kernel)) (hs (Cond.exactly (.string RX4 197) "java/lang/String") (by decide +kernel)), List.forall_mem_cons.mpr ⟨str_known (hts (Cond.stringRef RX4 202 "not in this state") (by decide +kernel)) (hs (Cond.exactly (.string RX4 202) "java/lang/String") (by decide +kernel)), List.forall_mem_cons.mpr ⟨str_known (hts (Cond.stringRef RX4 207 "no room") (by decide +kernel)) (hs (Cond.exactly (.string RX4 207) "java/lang/String") (by decide +kernel)), List.forall_mem_cons.mpr ⟨str_known (hts (Cond.stringRef RX4 127 "no such what") (by decide +kernel)) (hs (Cond.exactly (.string RX4 127) "java/lang/String") (by decide +kernel)), List.forall_mem_cons.mpr ⟨str_known (hts (Cond.stringRef RX4 134 "the run has no calls") (by decide +kernel)) (hs (Cond.exactly (.string RX4 134) "java/lang/String") (by decide +kernel)), List.forall_mem_cons.mpr ⟨str_known (hts (Cond.stringRef RX4 148 "no call was served") (by decide +kernel)) (hs (Cond.exactly (.string RX4 148) "java/lang/String") (by decide +kernel)), fun _ h => absurd h List.not_mem_nil⟩⟩⟩⟩⟩⟩⟩⟩
theorem ny_0 {b : Nat} {s : State} (hs : ∀ w ∈ flatC (Jvm.Cond.and given_1 narrow_1), w.before #[Value.ref b] s = true) : Ny s := by
  exact List.forall_mem_cons.mpr ⟨va_Nc.of (hs (Cond.not (.castable "java/lang/UnsupportedOperationException" "java/lang/IndexOutOfBoundsException")) (by decide +kernel)), List.forall_mem_cons.mpr ⟨va_Nc.of (hs (Cond.not (.castable "java/lang/IllegalStateException" "java/lang/IllegalArgumentException")) (by decide +kernel)), List.forall_mem_cons.mpr ⟨va_Nc.of (hs (Cond.not (.castable "java/lang/UnsupportedOperationException" "java/lang/IllegalArgumentException")) (by decide +kernel)), List.forall_mem_cons.mpr ⟨va_Nc.of (hs (Cond.not (.castable "java/lang/UnsupportedOperationException" "java/lang/IllegalStateException")) (by decide +kernel)), List.forall_mem_cons.mpr ⟨va_Nc.of (hs (Cond.not (.castable "java/lang/IndexOutOfBoundsException" "java/lang/IllegalArgumentException")) (by decide +kernel)), List.forall_mem_cons.mpr ⟨va_Nc.of (hs (Cond.not (.castable "java/lang/IllegalStateException" "java/lang/IndexOutOfBoundsException")) (by decide +kernel)), List.forall_mem_cons.mpr ⟨va_Nc.of (hs (Cond.not (.castable "java/lang/ArithmeticException" "java/lang/IllegalArgumentException")) (by decide +kernel)), fun _ h => absurd h List.not_mem_nil⟩⟩⟩⟩⟩⟩⟩
theorem zl_0 {b : Nat} {s : State} (hts : ∀ w ∈ lw_tbl, w.before #[Value.ref b] s = true) (hs : ∀ w ∈ flatC (Jvm.Cond.and given_1 narrow_1), w.before #[Value.ref b] s = true) : ZL (AL s) s s.heap :=
  ⟨vx_Zqof (hts (Cond.laysStatic Bundle.tN "UNASSIGNED_STACK" Bundle.steD) (by decide +kernel)) (hts (Cond.initialized Bundle.tN) (by decide +kernel)) (hs (Cond.isRef (.static Bundle.tN "UNASSIGNED_STACK" Bundle.steD)) (by decide +kernel)) (fun a h => Nat.not_le.mpr h), vx_Zqof (hts (Cond.laysStatic Bundle.tN "SUPPRESSED_SENTINEL" Bundle.listD) (by decide +kernel)) (hts (Cond.initialized Bundle.tN) (by decide +kernel)) (hs (Cond.isRef (.static Bundle.tN "SUPPRESSED_SENTINEL" Bundle.listD)) (by decide +kernel)) (fun a h => Nat.not_le.mpr h)⟩
theorem nn_0 {b : Nat} {s : State} (hts : ∀ w ∈ lw_tbl, w.before #[Value.ref b] s = true) : Nn s :=
  ⟨va_Nw.of rfl (hts (.methodLinkNest RX4 11 yX3_init "DaySimulate") (by decide +kernel)), va_Nw.of rfl (hts (.methodLinkNest RX4 18 yX1_init "DaySimulate") (by decide +kernel)), va_Nw.of rfl (hts (.methodLinkNest RX4 25 yX2_init "DaySimulate") (by decide +kernel)), va_Nw.of rfl (hts (.methodLinkNest RX2 11 yX0_init "DaySimulate") (by decide +kernel)), va_AOA.of (hts (.arrayOver (.array .int)) (by decide +kernel))⟩
theorem kn_0c {b : Nat} {s : State} (hts : ∀ w ∈ lw_tbl, w.before #[Value.ref b] s = true) : ∃ (T : Nat → ClassId) (D : va_G), ∀ u : Nat → Nat, va_K D vwCl (gT (u, T, D)) s := by
  obtain ⟨c0, i0, h0⟩ := u_known (C := RX0) (T := TX0) (N := 5) (n := 5) hts inX0 (hts (.instantiable RX0 5) (by decide +kernel))
  obtain ⟨c1, i1, h1⟩ := u_known (C := RX1) (T := TX1) (N := 2) (n := 2) hts inX1 (hts (.instantiable RX1 2) (by decide +kernel))
  obtain ⟨c2, i2, h2⟩ := u_known (C := RX2) (T := TX2) (N := 11) (n := 11) hts inX2 (hts (.instantiable RX2 11) (by decide +kernel))
  obtain ⟨c3, i3, h3⟩ := u_known (C := RX3) (T := TX3) (N := 8) (n := 8) hts inX3 (hts (.instantiable RX3 8) (by decide +kernel))
  obtain ⟨c4, i4, h4⟩ := u_known (C := RX4) (T := TX4) (N := 5) (n := 5) hts inX4 (hts (.instantiable RX4 5) (by decide +kernel))
  obtain ⟨c5, i5, h5⟩ := u_known (C := RX5) (T := TX5) (N := 24) (n := 24) hts inX5 (hts (.instantiable RX5 24) (by decide +kernel))
  obtain ⟨tI, a1, a2⟩ := arr_known (ty := .int) (hts (.arrayClass .int) (by decide +kernel)) (fun C h => by cases h)
  obtain ⟨tZ, b1, b2⟩ := arr_known (ty := .boolean) (hts (.arrayClass .boolean) (by decide +kernel)) (fun C h => by cases h)
  obtain ⟨tJ, d1, d2⟩ := arr_known (ty := .long) (hts (.arrayClass .long) (by decide +kernel)) (fun C h => by cases h)
  obtain ⟨tA, e1, e2⟩ := arr_known2 (hts (.arrayOver (.array .int)) (by decide +kernel))
  refine ⟨fun k => if k = 0 then tI else if k = 1 then tZ else if k = 2 then tA else tJ, (fun k => if k = 0 then c0 else if k = 1 then c1 else if k = 2 then c2 else if k = 3 then c3 else if k = 4 then c4 else c5, fun k => if k = 0 then i0 else if k = 1 then i1 else if k = 2 then i2 else if k = 3 then i3 else if k = 4 then i4 else i5), fun u => ⟨fun k q hq => ?_, fun k q hq => ?_⟩⟩
  · match k, hq with
    | 0, hq => cases hq; exact h0
    | 1, hq => cases hq; exact h1
    | 2, hq => cases hq; exact h2
    | 3, hq => cases hq; exact h3
    | 4, hq => cases hq; exact h4
    | 5, hq => cases hq; exact h5
    | k + 6, hq => simp [vwCl] at hq
  · match k, hq with
    | 0, hq => cases hq; exact ⟨a1, a2⟩
    | 1, hq => cases hq; exact ⟨b1, b2⟩
    | 2, hq => cases hq; exact ⟨e1, e2⟩
    | 3, hq => cases hq; exact ⟨d1, d2⟩
    | k + 4, hq => simp [gT] at hq
set_option maxHeartbeats 4000000 in
set_option maxRecDepth 100000 in
/-- THE LAW, from its entry, where stack traces are off -/
theorem whole_start {p : Program} {e : Env} {s : State} {m : MethodId} {below : List Frame} {meth : Method} {c : Code} (l : Launch) (hst : l.stackTraces = false) {b L : Nat} {xs : Nat → Int32} (hL : L ≤ 3584) (C0 : lw_At p s m meth c b L xs) : W p l e room_1 s m #[Value.ref b] below meth c s.heap [] 0 0 (lw_Z below #[Value.ref b] s) (entryFrame m ([Value.ref b] : List Value).toArray 7) := by
  obtain ⟨hx, hb, hr, hml, hown, hts0, hX, hbl, hlocks, hgv⟩ := id C0
  have hts : ∀ w ∈ wsL_law, w.before #[Value.ref b] s = true := fun w h => hts0 w (wsL_law_in w h)
  have hfl := flat_of_before _ hgv
  have hn := nn_0 hts0
  obtain ⟨T, D, hKa⟩ := kn_0c hts0
  have hA : ∀ q : Nat, s.heap.size ≤ q → AL s q := fun _ h => h
  have hS : va_S (AL s) s.heap s.heap [] := va_S.rf
  have hK : va_K D vwCl (gT (fun _ => 0, T, D)) s := hKa _
  have hP : va_P D vwCl [] s.heap := fun k q h => by simp at h
  have hD : va_D (AL s) [] := ⟨fun i j p q h => by simp at h, fun k q h => by simp at h⟩
  have hl := lv_entry ([.ref b]) (n := 7) (Nat.le_of_ble_eq_true rfl)
  rw [lg_entry_eq]
  generalize (lg_sl ([.ref b]) ++ List.replicate (7 - (lg_sl ([.ref b])).length) Slot.unset).toArray = ls at hl ⊢
  have hl : lv_has ls 7 [(0, .ref b)] := hl
  refine va_new (ci := 4) (fs := [.null, .null, .null, .int 0, .int 0]) (C := RX4) (T := TX4) (N := 5) hx hb hts inlX4 tyX4 tyX4_ok hown (hts0 (.classLink RL 8 RX4) (by decide +kernel)) (hts0 (.instantiable RX4 5) (by decide +kernel)) (hts0 (.initialized RX4) (by decide +kernel)) hK hP hD hS hA rfl (fun j hj => by rcases (show j = 0 ∨ j = 1 ∨ j = 2 ∨ j = 3 ∨ j = 4 by omega) with rfl | rfl | rfl | rfl | rfl <;> rfl) (Nat.le_of_ble_eq_true rfl) (Nat.le_of_ble_eq_true rfl) dL_law_0 (fun q0 H hP hD hS => ?_)
  have hP : va_P D vwCl (w0_X4 q0) H := hP
  have hD : va_D (AL s) (w0_X4 q0) := hD
  refine W.widen (k := 1) (n := 5) (by omega) (by omega) ?_
  refine lv_dup hx hb dL_law_3 rfl ?_
  have hPc := hP.sub (ws' := w0_X4 q0) [0] rfl
  have hDc := hD.sub (ws' := w0_X4 q0) [0] (by decide) rfl
  have hFc := va_free (wc := w0_X4 q0) hD hS hA [0] rfl
  refine va_callv (va_runI (As := []) (rest := [.ref q0]) ⟨hx, hb, hml, hown, hts⟩ (c_X4_init l (fun _ => 0, T, D) q0 H.size) (cwI 0 hts gL_law_X4_init rfl rfl rfl (hts0 (.initialized RX4) (by decide +kernel)) (hts0 (.methodLink RL 67 yX4_init) (by decide +kernel)) (hts0 (.instanceMethod yX4_init) (by decide +kernel)) rfl (by decide +kernel) ⟨Nat.le_of_ble_eq_true rfl, Nat.le_of_ble_eq_true rfl⟩) ⟨fun a U g mk q => by obtain ⟨q0, q1, qP, qK, qD, qn⟩ := q; exact ⟨q0, q1, qP, va_K.moved (u := U) (U := U.calling g mk a) (Vm.Alike.refl U.vm) qK, qD, Nn.warm (State.WarmedH.refl U) qn⟩, fun U hU hW => ⟨rfl, by rw [hU], by rw [hU]; exact hPc, va_K.moved hW.alike hK, hDc.weaken (fun _ _ _ _ => trivial), hn.warm hW⟩⟩ rfl rfl hl.1 rfl (lv_room (Nat.le_of_ble_eq_true rfl)) dL_law_4 ⟨Nat.le_of_ble_eq_true rfl, Nat.le_of_ble_eq_true rfl⟩) hS (fun q _ h => hFc q h) hFc (fun u4 t H1 locs ht hvm hw hB hz1 hk1 hS => ?_)
  obtain ⟨hu, hP1, hK1, hD1⟩ := hB
  rw [ht] at hP1
  subst hu
  obtain ⟨hP, hD⟩ := va_join (wr := []) hP hD [0] [] rfl rfl (by decide) (by decide) hk1 hFc hP1 hD1
  generalize H1 = H at hP hS ⊢
  have hP : va_P D vwCl (gs [0, 1, 2, 3, 4, 5, 6, 7, 8, 9, 10, 11, 12, 13, 14, 15, 16, 17, 18, 19, 20, 21, 22, 23, 24, 25, 26, 27, 28, 29, 30, 31, 32, 33, 34, 35, 36, 37, 38] (u4, T, D) 0 σ0) H := hP
  have hD : va_D (AL s) (gs [0, 1, 2, 3, 4, 5, 6, 7, 8, 9, 10, 11, 12, 13, 14, 15, 16, 17, 18, 19, 20, 21, 22, 23, 24, 25, 26, 27, 28, 29, 30, 31, 32, 33, 34, 35, 36, 37, 38] (u4, T, D) 0 σ0) := hD
  refine W.widen (k := 39) (n := 737) (by omega) (by omega) ?_
  refine lv_astore_n (lv' := [(1, .ref (u4 0)), (0, .ref b)]) hx hb dL_law_7 rfl hl (by decide) rfl (fun ls hl => ?_)
  refine va_new (ci := 5) (fs := [.int 0, .int 0, .int 0, .int 0, .null, .null, .int 0, .null, .null, .null, .int 0, .null, .int 0, .null, .null, .null, .null, .null, .null, .null, .null, .null, .null, .int 0]) (C := RX5) (T := TX5) (N := 24) hx hb hts inlX5 tyX5 tyX5_ok hown (hts0 (.classLink RL 68 RX5) (by decide +kernel)) (hts0 (.instantiable RX5 24) (by decide +kernel)) (hts0 (.initialized RX5) (by decide +kernel)) hK hP hD hS hA rfl (fun j hj => by rcases (show j = 0 ∨ j = 1 ∨ j = 2 ∨ j = 3 ∨ j = 4 ∨ j = 5 ∨ j = 6 ∨ j = 7 ∨ j = 8 ∨ j = 9 ∨ j = 10 ∨ j = 11 ∨ j = 12 ∨ j = 13 ∨ j = 14 ∨ j = 15 ∨ j = 16 ∨ j = 17 ∨ j = 18 ∨ j = 19 ∨ j = 20 ∨ j = 21 ∨ j = 22 ∨ j = 23 by omega) with rfl | rfl | rfl | rfl | rfl | rfl | rfl | rfl | rfl | rfl | rfl | rfl | rfl | rfl | rfl | rfl | rfl | rfl | rfl | rfl | rfl | rfl | rfl | rfl <;> rfl) (Nat.le_of_ble_eq_true rfl) (Nat.le_of_ble_eq_true rfl) dL_law_8 (fun q8 H hP hD hS => ?_)
  refine W.widen (k := 40) (n := 761) (by omega) (by omega) ?_
  refine lv_dup hx hb dL_law_11 rfl ?_
  have hPc := hP.sub (ws' := w0_X5 q8) [39] rfl
  have hDc := hD.sub (ws' := w0_X5 q8) [39] (by decide) rfl
  have hFc := va_free (wc := w0_X5 q8) hD hS hA [39] rfl
  refine va_callv (va_runI (As := []) (rest := [.ref q8]) ⟨hx, hb, hml, hown, hts⟩ (c_X5_init l (fun _ => 0, T, D) q8 H.size) (cwI 0 hts gL_law_X5_init rfl rfl rfl (hts0 (.initialized RX5) (by decide +kernel)) (hts0 (.methodLink RL 70 yX5_init) (by decide +kernel)) (hts0 (.instanceMethod yX5_init) (by decide +kernel)) rfl (by decide +kernel) ⟨Nat.le_of_ble_eq_true rfl, Nat.le_of_ble_eq_true rfl⟩) ⟨fun a U g mk q => by obtain ⟨q0, q1, qP, qK, qD, qn⟩ := q; exact ⟨q0, q1, qP, va_K.moved (u := U) (U := U.calling g mk a) (Vm.Alike.refl U.vm) qK, qD, Nn.warm (State.WarmedH.refl U) qn⟩, fun U hU hW => ⟨rfl, by rw [hU], by rw [hU]; exact hPc, va_K.moved hW.alike hK, hDc.weaken (fun _ _ _ _ => trivial), hn.warm hW⟩⟩ rfl rfl hl.1 rfl (lv_room (Nat.le_of_ble_eq_true rfl)) dL_law_12 ⟨Nat.le_of_ble_eq_true rfl, Nat.le_of_ble_eq_true rfl⟩) hS (fun q _ h => hFc q h) hFc (fun u5 t H1 locs ht hvm hw hB hz1 hk1 hS => ?_)
  obtain ⟨hu, hP1, hK1, hD1⟩ := hB
  rw [ht] at hP1
  subst hu
  obtain ⟨hP, hD⟩ := va_join (wr := gs [0, 1, 2, 3, 4, 5, 6, 7, 8, 9, 10, 11, 12, 13, 14, 15, 16, 17, 18, 19, 20, 21, 22, 23, 24, 25, 26, 27, 28, 29, 30, 31, 32, 33, 34, 35, 36, 37, 38] (u4, T, D) 0 σ0) hP hD [39] [0, 1, 2, 3, 4, 5, 6, 7, 8, 9, 10, 11, 12, 13, 14, 15, 16, 17, 18, 19, 20, 21, 22, 23, 24, 25, 26, 27, 28, 29, 30, 31, 32, 33, 34, 35, 36, 37, 38] rfl rfl (by decide) (by decide) hk1 hFc hP1 hD1
  generalize H1 = H at hP hS ⊢
  refine W.widen (k := 56) (n := 2735) (by omega) (by omega) ?_
  refine lv_astore_n (lv' := [(2, .ref (u5 39)), (1, .ref (u4 0)), (0, .ref b)]) hx hb dL_law_15 rfl hl (by decide) rfl (fun ls hl => ?_)
  refine lv_iconst (v := (1 : Int32)) hx hb dL_law_16 (by decide) ?_
  refine c_newl (E := (fun _ => 0, T, D)) hx hb (hts0 (.arrayClass .long) (by decide +kernel)) hK hP hD hS hA 1 (by decide) (by decide) (by decide) (Nat.le_of_ble_eq_true rfl) (Nat.le_of_ble_eq_true rfl) dL_law_17 (fun q17 H hP hD hS => ?_)
  refine W.widen (k := 57) (n := 2736) (by omega) (by omega) ?_
  refine lv_astore_n (lv' := [(3, .ref q17), (2, .ref (u5 39)), (1, .ref (u4 0)), (0, .ref b)]) hx hb dL_law_19 rfl hl (by decide) rfl (fun ls hl => ?_)
  refine lv_iconst (v := (0 : Int32)) hx hb dL_law_20 (by decide) ?_
  refine lv_istore (lv' := [(4, .int 0), (3, .ref q17), (2, .ref (u5 39)), (1, .ref (u4 0)), (0, .ref b)]) hx hb dL_law_21 hl (by decide) rfl (fun ls hl => ?_)
  have e4 : gs [0, 1, 2, 3, 4, 5, 6, 7, 8, 9, 10, 11, 12, 13, 14, 15, 16, 17, 18, 19, 20, 21, 22, 23, 24, 25, 26, 27, 28, 29, 30, 31, 32, 33, 34, 35, 36, 37, 38] (u4, T, D) 0 σ0 = gs [0, 1, 2, 3, 4, 5, 6, 7, 8, 9, 10, 11, 12, 13, 14, 15, 16, 17, 18, 19, 20, 21, 22, 23, 24, 25, 26, 27, 28, 29, 30, 31, 32, 33, 34, 35, 36, 37, 38] (fun k => if k < 39 then u4 k else if k < 56 then u5 k else q17, T, D) 0 σ0 := gs_congr (E := (u4, T, D)) (E2 := (fun k => if k < 39 then u4 k else if k < 56 then u5 k else q17, T, D)) rfl _ (fun k hk => by
    have hk2 : k < 39 := (by decide : ∀ k ∈ [0, 1, 2, 3, 4, 5, 6, 7, 8, 9, 10, 11, 12, 13, 14, 15, 16, 17, 18, 19, 20, 21, 22, 23, 24, 25, 26, 27, 28, 29, 30, 31, 32, 33, 34, 35, 36, 37, 38], k < 39) k hk
    refine ⟨?_, fun c hc => ?_⟩
    · show u4 k = if k < 39 then u4 k else _
      rw [if_pos hk2]
    · show u4 c = if c < 39 then u4 c else _
      rw [if_pos (ch_x hk2 hc)]) 0 σ0
  have e5 : gs [39, 40, 41, 42, 43, 44, 45, 46, 47, 48, 49, 50, 51, 52, 53, 54, 55] (u5, T, D) 0 σ0 = gs [39, 40, 41, 42, 43, 44, 45, 46, 47, 48, 49, 50, 51, 52, 53, 54, 55] (fun k => if k < 39 then u4 k else if k < 56 then u5 k else q17, T, D) 0 σ0 := gs_congr (E := (u5, T, D)) (E2 := (fun k => if k < 39 then u4 k else if k < 56 then u5 k else q17, T, D)) rfl _ (fun k hk => by
    have hk2 : 39 ≤ k ∧ k < 56 := (by decide : ∀ k ∈ [39, 40, 41, 42, 43, 44, 45, 46, 47, 48, 49, 50, 51, 52, 53, 54, 55], 39 ≤ k ∧ k < 56) k hk
    refine ⟨?_, fun c hc => ?_⟩
    · show u5 k = if k < 39 then u4 k else if k < 56 then u5 k else _
      rw [if_neg (by omega), if_pos hk2.2]
    · have h3 := ch_m hk2 hc
      show u5 c = if c < 39 then u4 c else if c < 56 then u5 c else _
      rw [if_neg (by omega), if_pos h3.2]) 0 σ0
  refine law_loop (E := (fun k => if k < 39 then u4 k else if k < 56 then u5 k else q17, T, D)) ⟨⟨⟨hx, hb, hml, hown, hts⟩, hKa _⟩, hst, hlocks, hr, zl_0 hts0 hfl, nx_0 hts0 hfl, ny_0 hfl, hX, hbl, hL⟩ (L + 1) 0 (by omega) (Nat.zero_le _) 0 σ0 H _ ls 57 2736 (by omega) (by omega) inv_0 ⟨?_, ?_, hS⟩ (lv_sub hl [0, 4, 3, 2, 1] rfl)
  · rw [gw_split, ← e4, ← e5]; exact hP
  · rw [gw_split, ← e4, ← e5]; exact hD
