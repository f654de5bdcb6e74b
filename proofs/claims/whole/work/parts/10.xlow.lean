/-! contracts, by wip/gen/walk.py -/
abbrev rm_X0_mix : Room := { frames := 0, cells := 0, slots := 0, locals := 0 }
abbrev WW_X0_mix (p : Program) (l : Launch) (e : Env) (s : State) (m : MethodId) (args : Array Value) (below : List Frame) (meth : Method) (c : Code) (E : En) (o : Int64) (res : Int32 × St) (H : Heap) (locs : List Loc) (cells slots : Nat) (g : JFrame) : Prop := W p l e (headSpec wsX0_mix rm_X0_mix).room s m args below meth c H locs cells slots (MQ below (Qi E s.heap.size o res.1 res.2) args s 0 0 (AA E s.heap.size)) g
theorem k_X0_mix_39 : Cond.constant RX0 39 (-1028477387 : Int32) ∈ wsX0_mix := by decide +kernel
theorem k_X0_mix_38 : Cond.constant RX0 38 (-2048144789 : Int32) ∈ wsX0_mix := by decide +kernel
set_option maxHeartbeats 4000000 in
set_option maxRecDepth 100000 in
theorem c_X0_mix (l : Launch) (E : En) (o : Int64) (a0 : Int32) (σ : St) {res : Int32 × St} (hf : f_X0_mix a0 σ = some res) : CI l yX0_mix wsX0_mix rm_X0_mix E [.int a0] o σ res.1 res.2 := by
  intro sz
  refine Met.ofW (cc := cX0_mix) (maxL := 2) (ret := (some .int)) (by decide) rfl ?_
  intro p e s m args below meth c s₁ B hml hv
  obtain ⟨rfl, hv⟩ := hv
  obtain ⟨rfl, hK, I⟩ := hv.start
  have C : Cx p c cX0_mix 2 s m _ wsX0_mix RX0 E := ⟨⟨B.exec, B.bytes, hml, findClass_of_methodNamed B.named, atoms_spec (ws := wsX0_mix) B.pre⟩, hK⟩
  have hx := C.1.1
  have hb := C.1.2.1
  have hr := B.returns
  have hlocks := B.notSynchronized
  clear hv
  have hl := lv_entry ([.int a0]) (n := 2) (Nat.le_of_ble_eq_true rfl)
  rw [lg_entry_eq]
  generalize (lg_sl ([.int a0]) ++ List.replicate (2 - (lg_sl ([.int a0])).length) Slot.unset).toArray = ls at hl ⊢
  have hl : lv_has ls 2 [(0, .int a0)] := hl
  generalize ([.int a0] : List Value).toArray = args at C ⊢
  refine g_begin I (fun H locs I => ?_)
  rw [f_X0_mix] at hf
  refine lv_iload_n hx hb dX0_mix_0 rfl (lv_at hl 0 rfl) ?_
  refine lv_istore_n (lv' := [(1, .int a0), (0, .int a0)]) hx hb dX0_mix_1 rfl hl (by decide) rfl (fun ls hl => ?_)
  refine lv_iload_n hx hb dX0_mix_2 rfl (lv_at hl 0 rfl) ?_
  refine lv_iload_n hx hb dX0_mix_3 rfl (lv_at hl 0 rfl) ?_
  refine lv_bipush (v := (15 : Int32)) hx hb dX0_mix_4 (by decide) ?_
  refine lv_iushr hx hb dX0_mix_6 rfl ?_
  refine lv_ixor hx hb dX0_mix_7 ?_
  refine lv_ldc (v := (-2048144789 : Int32)) hx hb C.1.2.2.2.1 (C.1.2.2.2.2 _ k_X0_mix_38) dX0_mix_8 ?_
  refine lv_imul hx hb dX0_mix_10 ?_
  refine lv_topi (fun x_1 ex_1 => ?_)
  have hf := lt_at hf ex_1
  refine lv_istore_n (lv' := [(1, .int x_1), (0, .int a0)]) hx hb dX0_mix_11 rfl hl (by decide) rfl (fun ls hl => ?_)
  refine lv_iload_n hx hb dX0_mix_12 rfl (lv_at hl 0 rfl) ?_
  refine lv_iload_n hx hb dX0_mix_13 rfl (lv_at hl 0 rfl) ?_
  refine lv_bipush (v := (13 : Int32)) hx hb dX0_mix_14 (by decide) ?_
  refine lv_iushr hx hb dX0_mix_16 rfl ?_
  refine lv_ixor hx hb dX0_mix_17 ?_
  refine lv_ldc (v := (-1028477387 : Int32)) hx hb C.1.2.2.2.1 (C.1.2.2.2.2 _ k_X0_mix_39) dX0_mix_18 ?_
  refine lv_imul hx hb dX0_mix_20 ?_
  refine lv_topi (fun x_2 ex_2 => ?_)
  have hf := lt_at hf ex_2
  refine lv_istore_n (lv' := [(1, .int x_2), (0, .int a0)]) hx hb dX0_mix_21 rfl hl (by decide) rfl (fun ls hl => ?_)
  refine lv_iload_n hx hb dX0_mix_22 rfl (lv_at hl 0 rfl) ?_
  refine lv_iload_n hx hb dX0_mix_23 rfl (lv_at hl 0 rfl) ?_
  refine lv_bipush (v := (16 : Int32)) hx hb dX0_mix_24 (by decide) ?_
  refine lv_iushr hx hb dX0_mix_26 rfl ?_
  refine lv_ixor hx hb dX0_mix_27 ?_
  exact g_iret C I hr hlocks hf dX0_mix_28
abbrev rm_X3_areaOfDraw : Room := { frames := 1, cells := 0, slots := 0, locals := 14 }
abbrev WW_X3_areaOfDraw (p : Program) (l : Launch) (e : Env) (s : State) (m : MethodId) (args : Array Value) (below : List Frame) (meth : Method) (c : Code) (E : En) (o : Int64) (res : Int32 × St) (H : Heap) (locs : List Loc) (cells slots : Nat) (g : JFrame) : Prop := W p l e (headSpec wsX3_areaOfDraw rm_X3_areaOfDraw).room s m args below meth c H locs cells slots (MQ below (Qi E s.heap.size o res.1 res.2) args s 0 0 (AA E s.heap.size)) g
theorem k_X3_areaOfDraw_24 : Cond.fieldLink RX3 24 "DaySimulate$Town" "weight" "[I" ∈ wsX3_areaOfDraw := by decide +kernel
theorem k_X3_areaOfDraw_31 : Cond.fieldLink RX3 31 "DaySimulate$Town" "areas" "I" ∈ wsX3_areaOfDraw := by decide +kernel
theorem k_X3_areaOfDraw_37 : Cond.methodLink RX3 37 Lib.Math.max.name ∈ wsX3_areaOfDraw := by decide +kernel
theorem k_X3_areaOfDraw_static_max : Cond.static Lib.Math.max.name ∈ wsX3_areaOfDraw := by decide +kernel
theorem k_X3_areaOfDraw_iniMath : Cond.initialized "java/lang/Math" ∈ wsX3_areaOfDraw := by decide +kernel
theorem k_X3_areaOfDraw_code_max : Cond.code Lib.Math.max.name Lib.Math.max.code 2 (some .int) ∈ wsX3_areaOfDraw := by decide +kernel
theorem k_X3_areaOfDraw_34 : Cond.fieldLink RX3 34 "DaySimulate$Town" "weightSum" "I" ∈ wsX3_areaOfDraw := by decide +kernel
theorem in_X3_areaOfDraw_X3 : ∀ w ∈ wsX30, w ∈ wsX3_areaOfDraw := by decide +kernel
set_option maxHeartbeats 4000000 in
set_option maxRecDepth 100000 in
theorem lp_X3_areaOfDraw_16 {l : Launch} {p : Program} {e : Env} {s : State} {m : MethodId} {args : Array Value} {below : List Frame} {meth : Method} {c : Code} {E : En} {o : Int64} {res : Int32 × St} (C : Cx p c cX3_areaOfDraw 5 s m args wsX3_areaOfDraw RX3 E) (hr : meth.sig.returnType = (some .int)) (hlocks : meth.locks = false)  (K48 : Int32 → St → Option (Int32 × St)) (hK48 : ∀ (u3 : Int32) (σ : St) (H : Heap) (locs : List Loc) (ls : Array Slot), K48 u3 σ = some res → Iv E (AA E s.heap.size) s.heap o σ H locs → lv_has ls 5 [(3, .int u3)] → WW_X3_areaOfDraw p l e s m args below meth c E o res H locs 0 0 (F0 m 48 ls [])) :
    ∀ (n : Nat) (v2 : Int32) (v3 : Int32) (v4 : Int32) (σ : St) (H : Heap) (locs : List Loc) (ls : Array Slot), f_X3_areaOfDraw_L16 K48 n v2 v3 v4 σ = some res → Iv E (AA E s.heap.size) s.heap o σ H locs → lv_has ls 5 [(0, .ref (ad E 1)), (2, .int v2), (3, .int v3), (4, .int v4)] → WW_X3_areaOfDraw p l e s m args below meth c E o res H locs 0 0 (F0 m 16 ls []) := by
  have hx := C.1.1
  have hb := C.1.2.1
  intro n
  induction n with
  | zero => intro v2 v3 v4 σ H locs ls hf _ _; cases (show (none : Option (Int32 × St)) = some res from hf)
  | succ n ih =>
    intro v2 v3 v4 σ H locs ls hf I hl
    rw [f_X3_areaOfDraw_L16] at hf
    refine lv_iload hx hb dX3_areaOfDraw_16 (lv_at hl 3 rfl) ?_
    refine lv_aload_n hx hb dX3_areaOfDraw_18 rfl (lv_at hl 0 rfl) ?_
    refine g_get (k := 1) (v := .int (σ 1 6)) C I (by decide) (gk_1 E o _) rfl in_X3_areaOfDraw_X3 6 (by decide) (C.1.2.2.2.2 _ k_X3_areaOfDraw_31) rfl dX3_areaOfDraw_19 ?_
    refine lv_icmp_ge (tgt := 48) hx hb dX3_areaOfDraw_22 (by decide) (fun c_3 => ?_) (fun c_3 => ?_)
    · have hf := if_t hf c_3
      exact hK48 v3 σ H locs ls hf I (lv_sub hl [2] rfl)
    · have hf := if_f hf c_3
      refine lv_iload_n hx hb dX3_areaOfDraw_25 rfl (lv_at hl 1 rfl) ?_
      refine lv_if_lt (tgt := 48) hx hb dX3_areaOfDraw_26 (by decide) (fun c_4 => ?_) (fun c_4 => ?_)
      · have hf := if_t hf c_4
        exact hK48 v3 σ H locs ls hf I (lv_sub hl [2] rfl)
      · have hf := if_f hf c_4
        refine lv_iload hx hb dX3_areaOfDraw_29 (lv_at hl 3 rfl) ?_
        refine lv_istore_n (lv' := [(3, .int v4), (0, .ref (ad E 1)), (2, .int v2), (4, .int v4)]) hx hb dX3_areaOfDraw_31 rfl hl (by decide) rfl (fun ls hl => ?_)
        refine lv_iload_n hx hb dX3_areaOfDraw_32 rfl (lv_at hl 2 rfl) ?_
        refine lv_aload_n hx hb dX3_areaOfDraw_33 rfl (lv_at hl 1 rfl) ?_
        refine g_get (k := 1) (v := .ref (ad E 6)) C I (by decide) (gk_1 E o _) rfl in_X3_areaOfDraw_X3 4 (by decide) (C.1.2.2.2.2 _ k_X3_areaOfDraw_24) rfl dX3_areaOfDraw_34 ?_
        refine lv_iload hx hb dX3_areaOfDraw_37 (lv_at hl 3 rfl) ?_
        obtain ⟨h_5, hf⟩ := ck_some hf
        refine g_iald (k := 6) C I (by decide) (gk_6 E o) (ixb_in h_5) dX3_areaOfDraw_39 ?_
        refine lv_isub hx hb dX3_areaOfDraw_40 ?_
        refine lv_topi (fun x_6 ex_6 => ?_)
        have hf := lt_at hf ex_6
        refine lv_istore_n (lv' := [(2, .int x_6), (3, .int v4), (0, .ref (ad E 1)), (4, .int v4)]) hx hb dX3_areaOfDraw_41 rfl hl (by decide) rfl (fun ls hl => ?_)
        obtain ⟨x_7, ex_7⟩ : ∃ y : Int32, y = (v4 + (1 : Int32)) := ⟨_, rfl⟩
        have hf := lt_at hf ex_7
        refine lv_iinc (v := x_7) (lv' := [(4, .int x_7), (2, .int x_6), (3, .int v4), (0, .ref (ad E 1))]) hx hb dX3_areaOfDraw_42 hl (k := 3) rfl (by rw [ex_7]; rfl) (by decide) rfl (fun ls hl => ?_)
        refine lv_goto (tgt := 16) hx hb dX3_areaOfDraw_45 (by decide) ?_
        exact ih x_6 v4 x_7 σ H locs ls hf I (lv_sub hl [3, 1, 2, 0] rfl)
set_option maxHeartbeats 4000000 in
set_option maxRecDepth 100000 in
theorem c_X3_areaOfDraw (l : Launch) (E : En) (o : Int64) (a1 : Int32) (σ : St) {res : Int32 × St} (hf : f_X3_areaOfDraw a1 σ = some res) : CI l yX3_areaOfDraw wsX3_areaOfDraw rm_X3_areaOfDraw E [.ref (ad E 1), .int a1] o σ res.1 res.2 := by
  intro sz
  refine Met.ofW (cc := cX3_areaOfDraw) (maxL := 5) (ret := (some .int)) (by decide) rfl ?_
  intro p e s m args below meth c s₁ B hml hv
  obtain ⟨rfl, hv⟩ := hv
  obtain ⟨rfl, hK, I⟩ := hv.start
  have C : Cx p c cX3_areaOfDraw 5 s m _ wsX3_areaOfDraw RX3 E := ⟨⟨B.exec, B.bytes, hml, findClass_of_methodNamed B.named, atoms_spec (ws := wsX3_areaOfDraw) B.pre⟩, hK⟩
  have hx := C.1.1
  have hb := C.1.2.1
  have hr := B.returns
  have hlocks := B.notSynchronized
  clear hv
  have hl := lv_entry ([.ref (ad E 1), .int a1]) (n := 5) (Nat.le_of_ble_eq_true rfl)
  rw [lg_entry_eq]
  generalize (lg_sl ([.ref (ad E 1), .int a1]) ++ List.replicate (5 - (lg_sl ([.ref (ad E 1), .int a1])).length) Slot.unset).toArray = ls at hl ⊢
  have hl : lv_has ls 5 [(0, .ref (ad E 1)), (1, .int a1)] := hl
  generalize ([.ref (ad E 1), .int a1] : List Value).toArray = args at C ⊢
  refine g_begin I (fun H locs I => ?_)
  rw [f_X3_areaOfDraw] at hf
  refine lv_iload_n hx hb dX3_areaOfDraw_0 rfl (lv_at hl 1 rfl) ?_
  refine lv_aload_n hx hb dX3_areaOfDraw_1 rfl (lv_at hl 0 rfl) ?_
  refine g_get (k := 1) (v := .int (σ 1 7)) C I (by decide) (gk_1 E o _) rfl in_X3_areaOfDraw_X3 7 (by decide) (C.1.2.2.2.2 _ k_X3_areaOfDraw_34) rfl dX3_areaOfDraw_2 ?_
  refine lv_iconst (v := (1 : Int32)) hx hb dX3_areaOfDraw_5 (by decide) ?_
  refine va_mmax hx hb (by rw [C.1.2.2.1]; exact hl.1.symm) C.1.2.2.2.1 (C.1.2.2.2.2 _ k_X3_areaOfDraw_37) (C.1.2.2.2.2 _ k_X3_areaOfDraw_static_max) (C.1.2.2.2.2 _ k_X3_areaOfDraw_iniMath) (C.1.2.2.2.2 _ k_X3_areaOfDraw_code_max) (Nat.le_of_ble_eq_true rfl) (Nat.le_of_ble_eq_true rfl) (Nat.le_of_ble_eq_true rfl) (Nat.le_of_ble_eq_true rfl) dX3_areaOfDraw_6 ?_
  refine lv_topi (fun x_1 ex_1 => ?_)
  have hf := lt_at hf ex_1
  obtain ⟨h_10, hf⟩ := ck_some hf
  refine lv_irem hx hb dX3_areaOfDraw_9 (nzb_ne h_10) ?_
  refine lv_topi (fun x_2 ex_2 => ?_)
  have hf := lt_at hf ex_2
  refine lv_istore_n (lv' := [(2, .int x_2), (0, .ref (ad E 1)), (1, .int a1)]) hx hb dX3_areaOfDraw_10 rfl hl (by decide) rfl (fun ls hl => ?_)
  refine lv_iconst (v := (0 : Int32)) hx hb dX3_areaOfDraw_11 (by decide) ?_
  refine lv_istore_n (lv' := [(3, .int (0 : Int32)), (2, .int x_2), (0, .ref (ad E 1)), (1, .int a1)]) hx hb dX3_areaOfDraw_12 rfl hl (by decide) rfl (fun ls hl => ?_)
  refine lv_iconst (v := (0 : Int32)) hx hb dX3_areaOfDraw_13 (by decide) ?_
  refine lv_istore (lv' := [(4, .int (0 : Int32)), (3, .int (0 : Int32)), (2, .int x_2), (0, .ref (ad E 1)), (1, .int a1)]) hx hb dX3_areaOfDraw_14 hl (by decide) rfl (fun ls hl => ?_)
  refine lp_X3_areaOfDraw_16 C hr hlocks _ ?_ _ x_2 (0 : Int32) (0 : Int32) σ H locs ls hf I (lv_sub hl [3, 2, 1, 0] rfl)
  · intro y_8 σ_9 H locs ls hf I hl
    refine lv_iload_n hx hb dX3_areaOfDraw_48 rfl (lv_at hl 0 rfl) ?_
    exact g_iret C I hr hlocks hf dX3_areaOfDraw_49
abbrev rm_X0_draw : Room := { frames := 2, cells := 0, slots := 0, locals := 38 }
abbrev WW_X0_draw (p : Program) (l : Launch) (e : Env) (s : State) (m : MethodId) (args : Array Value) (below : List Frame) (meth : Method) (c : Code) (E : En) (o : Int64) (res : Int32 × St) (H : Heap) (locs : List Loc) (cells slots : Nat) (g : JFrame) : Prop := W p l e (headSpec wsX0_draw rm_X0_draw).room s m args below meth c H locs cells slots (MQ below (Qv E s.heap.size o res.2) args s 0 0 (AA E s.heap.size)) g
theorem k_X0_draw_15 : Cond.fieldLink RX0 15 "DaySimulate$Day" "area" "[I" ∈ wsX0_draw := by decide +kernel
theorem k_X0_draw_21 : Cond.fieldLink RX0 21 "DaySimulate$Day" "lasts" "[I" ∈ wsX0_draw := by decide +kernel
theorem k_X0_draw_18 : Cond.fieldLink RX0 18 "DaySimulate$Day" "rank" "[I" ∈ wsX0_draw := by decide +kernel
theorem k_X0_draw_9 : Cond.fieldLink RX0 9 "DaySimulate$Day" "minute" "[I" ∈ wsX0_draw := by decide +kernel
theorem k_X0_draw_28 : Cond.constant RX0 28 (1000003 : Int32) ∈ wsX0_draw := by decide +kernel
theorem k_X0_draw_24 : Cond.fieldLink RX0 24 "DaySimulate$Day" "calls" "I" ∈ wsX0_draw := by decide +kernel
theorem in_X0_draw_X0 : ∀ w ∈ wsX00, w ∈ wsX0_draw := by decide +kernel
set_option maxHeartbeats 4000000 in
set_option maxRecDepth 100000 in
theorem lp_X0_draw_9 {l : Launch} {p : Program} {e : Env} {s : State} {m : MethodId} {args : Array Value} {below : List Frame} {meth : Method} {c : Code} {E : En} {o : Int64} {res : Int32 × St} (C : Cx p c cX0_draw 9 s m args wsX0_draw RX0 E) (hr : meth.sig.returnType = none) (hlocks : meth.locks = false) (b2 : Int32) (b3 : Int32) (b4 : Int32) (K116 : St → Option (Int32 × St)) (hK116 : ∀  (σ : St) (H : Heap) (locs : List Loc) (ls : Array Slot), K116 σ = some res → Iv E (AA E s.heap.size) s.heap o σ H locs → lv_has ls 9 [] → WW_X0_draw p l e s m args below meth c E o res H locs 0 0 (F0 m 116 ls [])) :
    ∀ (n : Nat) (v5 : Int32) (σ : St) (H : Heap) (locs : List Loc) (ls : Array Slot), f_X0_draw_L9 b2 b3 b4 K116 n v5 σ = some res → Iv E (AA E s.heap.size) s.heap o σ H locs → lv_has ls 9 [(0, .ref (ad E 34)), (1, .ref (ad E 1)), (2, .int b2), (3, .int b3), (4, .int b4), (5, .int v5)] → WW_X0_draw p l e s m args below meth c E o res H locs 0 0 (F0 m 9 ls []) := by
  have hx := C.1.1
  have hb := C.1.2.1
  intro n
  induction n with
  | zero => intro v5 σ H locs ls hf _ _; cases (show (none : Option (Int32 × St)) = some res from hf)
  | succ n ih =>
    intro v5 σ H locs ls hf I hl
    rw [f_X0_draw_L9] at hf
    refine lv_iload hx hb dX0_draw_9 (lv_at hl 5 rfl) ?_
    refine lv_iload hx hb dX0_draw_11 (lv_at hl 4 rfl) ?_
    refine lv_icmp_ge (tgt := 116) hx hb dX0_draw_13 (by decide) (fun c_2 => ?_) (fun c_2 => ?_)
    · have hf := if_t hf c_2
      exact hK116  σ H locs ls hf I (lv_sub hl [] rfl)
    · have hf := if_f hf c_2
      refine lv_iload_n hx hb dX0_draw_16 rfl (lv_at hl 2 rfl) ?_
      refine lv_ldc (v := (1000003 : Int32)) hx hb C.1.2.2.2.1 (C.1.2.2.2.2 _ k_X0_draw_28) dX0_draw_17 ?_
      refine lv_iload_n hx hb dX0_draw_19 rfl (lv_at hl 3 rfl) ?_
      refine lv_imul hx hb dX0_draw_20 ?_
      refine lv_iadd hx hb dX0_draw_21 ?_
      refine lv_bipush (v := (31 : Int32)) hx hb dX0_draw_22 (by decide) ?_
      refine lv_iload hx hb dX0_draw_24 (lv_at hl 5 rfl) ?_
      refine lv_imul hx hb dX0_draw_26 ?_
      refine lv_iadd hx hb dX0_draw_27 ?_
      obtain ⟨r_3, σ_4, hg_5, hf⟩ := bd_some hf
      refine g_csi (av := [.int ((b2 + ((1000003 : Int32) * b3)) + ((31 : Int32) * v5))]) (rest := []) C I AA.new (c_X0_mix l E o (((b2 + ((1000003 : Int32) * b3)) + ((31 : Int32) * v5))) σ hg_5) (cwS 1 C.1.2.2.2.2 gX0_draw_X0_mix rfl rfl rfl (by decide +kernel) ⟨Nat.le_of_ble_eq_true rfl, Nat.le_of_ble_eq_true rfl⟩) rfl hl.1 rfl (Nat.le_of_ble_eq_true rfl) ⟨Nat.le_of_ble_eq_true rfl, Nat.le_of_ble_eq_true rfl⟩ dX0_draw_28 (fun H locs I => ?_)
      refine lv_istore (lv' := [(6, .int r_3), (0, .ref (ad E 34)), (1, .ref (ad E 1)), (2, .int b2), (3, .int b3), (4, .int b4), (5, .int v5)]) hx hb dX0_draw_31 hl (by decide) rfl (fun ls hl => ?_)
      refine lv_iload hx hb dX0_draw_33 (lv_at hl 0 rfl) ?_
      refine lv_iconst (v := (1 : Int32)) hx hb dX0_draw_35 (by decide) ?_
      refine lv_iadd hx hb dX0_draw_36 ?_
      obtain ⟨r_6, σ_7, hg_8, hf⟩ := bd_some hf
      refine g_csi (av := [.int (r_3 + (1 : Int32))]) (rest := []) C I AA.new (c_X0_mix l E o ((r_3 + (1 : Int32))) σ_4 hg_8) (cwS 1 C.1.2.2.2.2 gX0_draw_X0_mix rfl rfl rfl (by decide +kernel) ⟨Nat.le_of_ble_eq_true rfl, Nat.le_of_ble_eq_true rfl⟩) rfl hl.1 rfl (Nat.le_of_ble_eq_true rfl) ⟨Nat.le_of_ble_eq_true rfl, Nat.le_of_ble_eq_true rfl⟩ dX0_draw_37 (fun H locs I => ?_)
      refine lv_istore (lv' := [(7, .int r_6), (6, .int r_3), (0, .ref (ad E 34)), (1, .ref (ad E 1)), (2, .int b2), (3, .int b3), (4, .int b4), (5, .int v5)]) hx hb dX0_draw_40 hl (by decide) rfl (fun ls hl => ?_)
      refine lv_iload hx hb dX0_draw_42 (lv_at hl 0 rfl) ?_
      refine lv_iconst (v := (1 : Int32)) hx hb dX0_draw_44 (by decide) ?_
      refine lv_iadd hx hb dX0_draw_45 ?_
      obtain ⟨r_9, σ_10, hg_11, hf⟩ := bd_some hf
      refine g_csi (av := [.int (r_6 + (1 : Int32))]) (rest := []) C I AA.new (c_X0_mix l E o ((r_6 + (1 : Int32))) σ_7 hg_11) (cwS 1 C.1.2.2.2.2 gX0_draw_X0_mix rfl rfl rfl (by decide +kernel) ⟨Nat.le_of_ble_eq_true rfl, Nat.le_of_ble_eq_true rfl⟩) rfl hl.1 rfl (Nat.le_of_ble_eq_true rfl) ⟨Nat.le_of_ble_eq_true rfl, Nat.le_of_ble_eq_true rfl⟩ dX0_draw_46 (fun H locs I => ?_)
      refine lv_istore (lv' := [(8, .int r_9), (7, .int r_6), (6, .int r_3), (0, .ref (ad E 34)), (1, .ref (ad E 1)), (2, .int b2), (3, .int b3), (4, .int b4), (5, .int v5)]) hx hb dX0_draw_49 hl (by decide) rfl (fun ls hl => ?_)
      refine lv_aload_n hx hb dX0_draw_51 rfl (lv_at hl 3 rfl) ?_
      refine g_get (k := 34) (v := .ref (ad E 35)) C I (by decide) (gk_34 E o _) rfl in_X0_draw_X0 0 (by decide) (C.1.2.2.2.2 _ k_X0_draw_9) rfl dX0_draw_52 ?_
      refine lv_iload hx hb dX0_draw_55 (lv_at hl 8 rfl) ?_
      refine lv_iload hx hb dX0_draw_57 (lv_at hl 2 rfl) ?_
      refine lv_iconst (v := (4 : Int32)) hx hb dX0_draw_59 (by decide) ?_
      refine lv_iushr hx hb dX0_draw_60 rfl ?_
      refine lv_sipush (v := (1440 : Int32)) hx hb dX0_draw_61 (by decide) ?_
      refine lv_irem hx hb dX0_draw_64 (by decide) ?_
      obtain ⟨h_12, hf⟩ := ck_some hf
      refine g_iast (k := 35) C I (by decide) (gk_35 E o) (ixb_in h_12) dX0_draw_65 (fun H locs σ_13 eσ_13 I => ?_)
      have hf := lt_at hf eσ_13
      refine lv_aload_n hx hb dX0_draw_66 rfl (lv_at hl 3 rfl) ?_
      refine g_get (k := 34) (v := .ref (ad E 37)) C I (by decide) (gk_34 E o _) rfl in_X0_draw_X0 2 (by decide) (C.1.2.2.2.2 _ k_X0_draw_18) rfl dX0_draw_67 ?_
      refine lv_iload hx hb dX0_draw_70 (lv_at hl 8 rfl) ?_
      refine lv_iload hx hb dX0_draw_72 (lv_at hl 1 rfl) ?_
      refine lv_iconst (v := (3 : Int32)) hx hb dX0_draw_74 (by decide) ?_
      refine lv_iand hx hb dX0_draw_75 ?_
      obtain ⟨h_14, hf⟩ := ck_some hf
      refine g_iast (k := 37) C I (by decide) (gk_37 E o) (ixb_in h_14) dX0_draw_76 (fun H locs σ_15 eσ_15 I => ?_)
      have hf := lt_at hf eσ_15
      refine lv_aload_n hx hb dX0_draw_77 rfl (lv_at hl 3 rfl) ?_
      refine g_get (k := 34) (v := .ref (ad E 38)) C I (by decide) (gk_34 E o _) rfl in_X0_draw_X0 3 (by decide) (C.1.2.2.2.2 _ k_X0_draw_21) rfl dX0_draw_78 ?_
      refine lv_iload hx hb dX0_draw_81 (lv_at hl 8 rfl) ?_
      refine lv_bipush (v := (10 : Int32)) hx hb dX0_draw_83 (by decide) ?_
      refine lv_iload hx hb dX0_draw_85 (lv_at hl 1 rfl) ?_
      refine lv_bipush (v := (8 : Int32)) hx hb dX0_draw_87 (by decide) ?_
      refine lv_iushr hx hb dX0_draw_89 rfl ?_
      refine lv_bipush (v := (90 : Int32)) hx hb dX0_draw_90 (by decide) ?_
      refine lv_irem hx hb dX0_draw_92 (by decide) ?_
      refine lv_iadd hx hb dX0_draw_93 ?_
      obtain ⟨h_16, hf⟩ := ck_some hf
      refine g_iast (k := 38) C I (by decide) (gk_38 E o) (ixb_in h_16) dX0_draw_94 (fun H locs σ_17 eσ_17 I => ?_)
      have hf := lt_at hf eσ_17
      refine lv_aload_n hx hb dX0_draw_95 rfl (lv_at hl 3 rfl) ?_
      refine g_get (k := 34) (v := .ref (ad E 36)) C I (by decide) (gk_34 E o _) rfl in_X0_draw_X0 1 (by decide) (C.1.2.2.2.2 _ k_X0_draw_15) rfl dX0_draw_96 ?_
      refine lv_iload hx hb dX0_draw_99 (lv_at hl 8 rfl) ?_
      refine lv_aload_n hx hb dX0_draw_101 rfl (lv_at hl 4 rfl) ?_
      refine lv_iload hx hb dX0_draw_102 (lv_at hl 0 rfl) ?_
      refine lv_iconst (v := (4 : Int32)) hx hb dX0_draw_104 (by decide) ?_
      refine lv_iushr hx hb dX0_draw_105 rfl ?_
      obtain ⟨r_18, σ_19, hg_20, hf⟩ := bd_some hf
      refine g_cvi (av := [.int (ush r_9 (4 : Int32))]) (rest := [.int v5, .ref (ad E 36)]) (k := 1) C I AA.new (c_X3_areaOfDraw l E o ((ush r_9 (4 : Int32))) σ_17 hg_20) (cwV 1 C.1.2.2.2.2 gX0_draw_X3_areaOfDraw rfl rfl rfl (by decide +kernel) ⟨Nat.le_of_ble_eq_true rfl, Nat.le_of_ble_eq_true rfl⟩) (by decide) (gk_1 E o _) rfl rfl rfl hl.1 rfl (Nat.le_of_ble_eq_true rfl) ⟨Nat.le_of_ble_eq_true rfl, Nat.le_of_ble_eq_true rfl⟩ dX0_draw_106 (fun H locs I => ?_)
      obtain ⟨h_21, hf⟩ := ck_some hf
      refine g_iast (k := 36) C I (by decide) (gk_36 E o) (ixb_in h_21) dX0_draw_109 (fun H locs σ_22 eσ_22 I => ?_)
      have hf := lt_at hf eσ_22
      obtain ⟨x_23, ex_23⟩ : ∃ y : Int32, y = (v5 + (1 : Int32)) := ⟨_, rfl⟩
      have hf := lt_at hf ex_23
      refine lv_iinc (v := x_23) (lv' := [(5, .int x_23), (8, .int r_9), (7, .int r_6), (6, .int r_3), (0, .ref (ad E 34)), (1, .ref (ad E 1)), (2, .int b2), (3, .int b3), (4, .int b4)]) hx hb dX0_draw_110 hl (k := 8) rfl (by rw [ex_23]; rfl) (by decide) rfl (fun ls hl => ?_)
      refine lv_goto (tgt := 9) hx hb dX0_draw_113 (by decide) ?_
      exact ih x_23 σ_22 H locs ls hf I (lv_sub hl [4, 5, 6, 7, 8, 0] rfl)
set_option maxHeartbeats 4000000 in
set_option maxRecDepth 100000 in
theorem c_X0_draw (l : Launch) (E : En) (o : Int64) (a2 : Int32) (a3 : Int32) (a4 : Int32) (σ : St) {res : Int32 × St} (hf : f_X0_draw a2 a3 a4 σ = some res) : CV l yX0_draw wsX0_draw rm_X0_draw E [.ref (ad E 34), .ref (ad E 1), .int a2, .int a3, .int a4] o σ res.2 := by
  intro sz
  refine Met.ofW (cc := cX0_draw) (maxL := 9) (ret := none) (by decide) rfl ?_
  intro p e s m args below meth c s₁ B hml hv
  obtain ⟨rfl, hv⟩ := hv
  obtain ⟨rfl, hK, I⟩ := hv.start
  have C : Cx p c cX0_draw 9 s m _ wsX0_draw RX0 E := ⟨⟨B.exec, B.bytes, hml, findClass_of_methodNamed B.named, atoms_spec (ws := wsX0_draw) B.pre⟩, hK⟩
  have hx := C.1.1
  have hb := C.1.2.1
  have hr := B.returns
  have hlocks := B.notSynchronized
  clear hv
  have hl := lv_entry ([.ref (ad E 34), .ref (ad E 1), .int a2, .int a3, .int a4]) (n := 9) (Nat.le_of_ble_eq_true rfl)
  rw [lg_entry_eq]
  generalize (lg_sl ([.ref (ad E 34), .ref (ad E 1), .int a2, .int a3, .int a4]) ++ List.replicate (9 - (lg_sl ([.ref (ad E 34), .ref (ad E 1), .int a2, .int a3, .int a4])).length) Slot.unset).toArray = ls at hl ⊢
  have hl : lv_has ls 9 [(0, .ref (ad E 34)), (1, .ref (ad E 1)), (2, .int a2), (3, .int a3), (4, .int a4)] := hl
  generalize ([.ref (ad E 34), .ref (ad E 1), .int a2, .int a3, .int a4] : List Value).toArray = args at C ⊢
  refine g_begin I (fun H locs I => ?_)
  rw [f_X0_draw] at hf
  refine lv_aload_n hx hb dX0_draw_0 rfl (lv_at hl 0 rfl) ?_
  refine lv_iload hx hb dX0_draw_1 (lv_at hl 4 rfl) ?_
  refine g_put (k := 34) (v := a4) C I (by decide) (gk_34 E o) rfl in_X0_draw_X0 tyX0 tyX0_ok nmX0 4 (by decide) (C.1.2.2.2.2 _ k_X0_draw_24) rfl (by decide +kernel) (Nat.le_of_ble_eq_true rfl) rfl dX0_draw_3 (fun H locs σ_1 eσ_1 I => ?_)
  have hf := lt_at hf eσ_1
  refine lv_iconst (v := (0 : Int32)) hx hb dX0_draw_6 (by decide) ?_
  refine lv_istore (lv' := [(5, .int (0 : Int32)), (0, .ref (ad E 34)), (1, .ref (ad E 1)), (2, .int a2), (3, .int a3), (4, .int a4)]) hx hb dX0_draw_7 hl (by decide) rfl (fun ls hl => ?_)
  refine lp_X0_draw_9 C hr hlocks a2 a3 a4 _ ?_ _ (0 : Int32) σ_1 H locs ls hf I (lv_sub hl [1, 2, 3, 4, 5, 0] rfl)
  · intro  σ_24 H locs ls hf I hl
    exact g_vret C I hr hlocks hf dX0_draw_116
abbrev rm_X1_addUnit : Room := { frames := 0, cells := 0, slots := 0, locals := 0 }
abbrev WW_X1_addUnit (p : Program) (l : Launch) (e : Env) (s : State) (m : MethodId) (args : Array Value) (below : List Frame) (meth : Method) (c : Code) (E : En) (o : Int64) (res : Int32 × St) (H : Heap) (locs : List Loc) (cells slots : Nat) (g : JFrame) : Prop := W p l e (headSpec wsX1_addUnit rm_X1_addUnit).room s m args below meth c H locs cells slots (MQ below (Qi E s.heap.size o res.1 res.2) args s 0 0 (AA E s.heap.size)) g
theorem k_X1_addUnit_16 : Cond.fieldLink RX1 16 "DaySimulate$Fleet" "units" "I" ∈ wsX1_addUnit := by decide +kernel
theorem k_X1_addUnit_11 : Cond.fieldLink RX1 11 "DaySimulate$Fleet" "stationOf" "[[I" ∈ wsX1_addUnit := by decide +kernel
theorem in_X1_addUnit_X1 : ∀ w ∈ wsX10, w ∈ wsX1_addUnit := by decide +kernel
set_option maxHeartbeats 4000000 in
set_option maxRecDepth 100000 in
theorem lp_X1_addUnit_2 {l : Launch} {p : Program} {e : Env} {s : State} {m : MethodId} {args : Array Value} {below : List Frame} {meth : Method} {c : Code} {E : En} {o : Int64} {res : Int32 × St} (C : Cx p c cX1_addUnit 3 s m args wsX1_addUnit RX1 E) (hr : meth.sig.returnType = (some .int)) (hlocks : meth.locks = false) (b1 : Int32) (K25 : St → Option (Int32 × St)) (hK25 : ∀  (σ : St) (H : Heap) (locs : List Loc) (ls : Array Slot), K25 σ = some res → Iv E (AA E s.heap.size) s.heap o σ H locs → lv_has ls 3 [(0, .ref (ad E 7))] → WW_X1_addUnit p l e s m args below meth c E o res H locs 0 0 (F0 m 25 ls [])) :
    ∀ (n : Nat) (v2 : Int32) (σ : St) (H : Heap) (locs : List Loc) (ls : Array Slot), f_X1_addUnit_L2 b1 K25 n v2 σ = some res → Iv E (AA E s.heap.size) s.heap o σ H locs → lv_has ls 3 [(0, .ref (ad E 7)), (1, .int b1), (2, .int v2)] → WW_X1_addUnit p l e s m args below meth c E o res H locs 0 0 (F0 m 2 ls []) := by
  have hx := C.1.1
  have hb := C.1.2.1
  intro n
  induction n with
  | zero => intro v2 σ H locs ls hf _ _; cases (show (none : Option (Int32 × St)) = some res from hf)
  | succ n ih =>
    intro v2 σ H locs ls hf I hl
    rw [f_X1_addUnit_L2] at hf
    refine lv_iload_n hx hb dX1_addUnit_2 rfl (lv_at hl 2 rfl) ?_
    refine lv_iconst (v := (4 : Int32)) hx hb dX1_addUnit_3 (by decide) ?_
    refine lv_icmp_ge (tgt := 25) hx hb dX1_addUnit_4 (by decide) (fun c_1 => ?_) (fun c_1 => ?_)
    · have hf := if_t hf c_1
      exact hK25  σ H locs ls hf I (lv_sub hl [0] rfl)
    · have hf := if_f hf c_1
      refine lv_aload_n hx hb dX1_addUnit_7 rfl (lv_at hl 0 rfl) ?_
      refine g_get (k := 7) (v := .ref (ad E 8)) C I (by decide) (gk_7 E o _) rfl in_X1_addUnit_X1 0 (by decide) (C.1.2.2.2.2 _ k_X1_addUnit_11) rfl dX1_addUnit_8 ?_
      refine lv_iload_n hx hb dX1_addUnit_11 rfl (lv_at hl 2 rfl) ?_
      obtain ⟨h_2, hf⟩ := ck_some hf
      refine g_aald (k := 8) (b := 9) C I (by decide) (gk_8 E o) (ixb_in h_2) (ixb_lt h_2) dX1_addUnit_12 ?_
      refine lv_aload_n hx hb dX1_addUnit_13 rfl (lv_at hl 0 rfl) ?_
      refine g_get (k := 7) (v := .int (σ 7 1)) C I (by decide) (gk_7 E o _) rfl in_X1_addUnit_X1 1 (by decide) (C.1.2.2.2.2 _ k_X1_addUnit_16) rfl dX1_addUnit_14 ?_
      refine lv_iload_n hx hb dX1_addUnit_17 rfl (lv_at hl 1 rfl) ?_
      obtain ⟨h_3, hf⟩ := ck_some hf
      refine g_iast (k := (9 + (v2).toNatClampNeg)) C I (gkn_9 (ixb_lt h_2)) (gkd_9 E o (ixb_lt h_2)) (ixb_in h_3) dX1_addUnit_18 (fun H locs σ_4 eσ_4 I => ?_)
      have hf := lt_at hf eσ_4
      obtain ⟨x_5, ex_5⟩ : ∃ y : Int32, y = (v2 + (1 : Int32)) := ⟨_, rfl⟩
      have hf := lt_at hf ex_5
      refine lv_iinc (v := x_5) (lv' := [(2, .int x_5), (0, .ref (ad E 7)), (1, .int b1)]) hx hb dX1_addUnit_19 hl (k := 2) rfl (by rw [ex_5]; rfl) (by decide) rfl (fun ls hl => ?_)
      refine lv_goto (tgt := 2) hx hb dX1_addUnit_22 (by decide) ?_
      exact ih x_5 σ_4 H locs ls hf I (lv_sub hl [1, 2, 0] rfl)
set_option maxHeartbeats 4000000 in
set_option maxRecDepth 100000 in
theorem c_X1_addUnit (l : Launch) (E : En) (o : Int64) (a1 : Int32) (σ : St) {res : Int32 × St} (hf : f_X1_addUnit a1 σ = some res) : CI l yX1_addUnit wsX1_addUnit rm_X1_addUnit E [.ref (ad E 7), .int a1] o σ res.1 res.2 := by
  intro sz
  refine Met.ofW (cc := cX1_addUnit) (maxL := 3) (ret := (some .int)) (by decide) rfl ?_
  intro p e s m args below meth c s₁ B hml hv
  obtain ⟨rfl, hv⟩ := hv
  obtain ⟨rfl, hK, I⟩ := hv.start
  have C : Cx p c cX1_addUnit 3 s m _ wsX1_addUnit RX1 E := ⟨⟨B.exec, B.bytes, hml, findClass_of_methodNamed B.named, atoms_spec (ws := wsX1_addUnit) B.pre⟩, hK⟩
  have hx := C.1.1
  have hb := C.1.2.1
  have hr := B.returns
  have hlocks := B.notSynchronized
  clear hv
  have hl := lv_entry ([.ref (ad E 7), .int a1]) (n := 3) (Nat.le_of_ble_eq_true rfl)
  rw [lg_entry_eq]
  generalize (lg_sl ([.ref (ad E 7), .int a1]) ++ List.replicate (3 - (lg_sl ([.ref (ad E 7), .int a1])).length) Slot.unset).toArray = ls at hl ⊢
  have hl : lv_has ls 3 [(0, .ref (ad E 7)), (1, .int a1)] := hl
  generalize ([.ref (ad E 7), .int a1] : List Value).toArray = args at C ⊢
  refine g_begin I (fun H locs I => ?_)
  rw [f_X1_addUnit] at hf
  refine lv_iconst (v := (0 : Int32)) hx hb dX1_addUnit_0 (by decide) ?_
  refine lv_istore_n (lv' := [(2, .int (0 : Int32)), (0, .ref (ad E 7)), (1, .int a1)]) hx hb dX1_addUnit_1 rfl hl (by decide) rfl (fun ls hl => ?_)
  refine lp_X1_addUnit_2 C hr hlocks a1 _ ?_ _ (0 : Int32) σ H locs ls hf I (lv_sub hl [1, 2, 0] rfl)
  · intro  σ_6 H locs ls hf I hl
    refine lv_aload_n hx hb dX1_addUnit_25 rfl (lv_at hl 0 rfl) ?_
    refine lv_dup hx hb dX1_addUnit_26 rfl ?_
    refine g_get (k := 7) (v := .int (σ_6 7 1)) C I (by decide) (gk_7 E o _) rfl in_X1_addUnit_X1 1 (by decide) (C.1.2.2.2.2 _ k_X1_addUnit_16) rfl dX1_addUnit_27 ?_
    refine lv_dup_x1 hx hb dX1_addUnit_30 rfl rfl ?_
    refine lv_iconst (v := (1 : Int32)) hx hb dX1_addUnit_31 (by decide) ?_
    refine lv_iadd hx hb dX1_addUnit_32 ?_
    refine g_put (k := 7) (v := ((σ_6 7 1) + (1 : Int32))) C I (by decide) (gk_7 E o) rfl in_X1_addUnit_X1 tyX1 tyX1_ok nmX1 1 (by decide) (C.1.2.2.2.2 _ k_X1_addUnit_16) rfl (by decide +kernel) (Nat.le_of_ble_eq_true rfl) rfl dX1_addUnit_33 (fun H locs σ_7 eσ_7 I => ?_)
    have hf := lt_at hf eσ_7
    exact g_iret C I hr hlocks hf dX1_addUnit_36
abbrev rm_X1_move : Room := { frames := 0, cells := 0, slots := 0, locals := 0 }
abbrev WW_X1_move (p : Program) (l : Launch) (e : Env) (s : State) (m : MethodId) (args : Array Value) (below : List Frame) (meth : Method) (c : Code) (E : En) (o : Int64) (res : Int32 × St) (H : Heap) (locs : List Loc) (cells slots : Nat) (g : JFrame) : Prop := W p l e (headSpec wsX1_move rm_X1_move).room s m args below meth c H locs cells slots (MQ below (Qv E s.heap.size o res.2) args s 0 0 (AA E s.heap.size)) g
theorem k_X1_move_11 : Cond.fieldLink RX1 11 "DaySimulate$Fleet" "stationOf" "[[I" ∈ wsX1_move := by decide +kernel
theorem in_X1_move_X1 : ∀ w ∈ wsX10, w ∈ wsX1_move := by decide +kernel
set_option maxHeartbeats 4000000 in
set_option maxRecDepth 100000 in
theorem c_X1_move (l : Launch) (E : En) (o : Int64) (a1 : Int32) (a2 : Int32) (a3 : Int32) (σ : St) {res : Int32 × St} (hf : f_X1_move a1 a2 a3 σ = some res) : CV l yX1_move wsX1_move rm_X1_move E [.ref (ad E 7), .int a1, .int a2, .int a3] o σ res.2 := by
  intro sz
  refine Met.ofW (cc := cX1_move) (maxL := 4) (ret := none) (by decide) rfl ?_
  intro p e s m args below meth c s₁ B hml hv
  obtain ⟨rfl, hv⟩ := hv
  obtain ⟨rfl, hK, I⟩ := hv.start
  have C : Cx p c cX1_move 4 s m _ wsX1_move RX1 E := ⟨⟨B.exec, B.bytes, hml, findClass_of_methodNamed B.named, atoms_spec (ws := wsX1_move) B.pre⟩, hK⟩
  have hx := C.1.1
  have hb := C.1.2.1
  have hr := B.returns
  have hlocks := B.notSynchronized
  clear hv
  have hl := lv_entry ([.ref (ad E 7), .int a1, .int a2, .int a3]) (n := 4) (Nat.le_of_ble_eq_true rfl)
  rw [lg_entry_eq]
  generalize (lg_sl ([.ref (ad E 7), .int a1, .int a2, .int a3]) ++ List.replicate (4 - (lg_sl ([.ref (ad E 7), .int a1, .int a2, .int a3])).length) Slot.unset).toArray = ls at hl ⊢
  have hl : lv_has ls 4 [(0, .ref (ad E 7)), (1, .int a1), (2, .int a2), (3, .int a3)] := hl
  generalize ([.ref (ad E 7), .int a1, .int a2, .int a3] : List Value).toArray = args at C ⊢
  refine g_begin I (fun H locs I => ?_)
  rw [f_X1_move] at hf
  refine lv_aload_n hx hb dX1_move_0 rfl (lv_at hl 0 rfl) ?_
  refine g_get (k := 7) (v := .ref (ad E 8)) C I (by decide) (gk_7 E o _) rfl in_X1_move_X1 0 (by decide) (C.1.2.2.2.2 _ k_X1_move_11) rfl dX1_move_1 ?_
  refine lv_iload_n hx hb dX1_move_4 rfl (lv_at hl 1 rfl) ?_
  obtain ⟨h_1, hf⟩ := ck_some hf
  refine g_aald (k := 8) (b := 9) C I (by decide) (gk_8 E o) (ixb_in h_1) (ixb_lt h_1) dX1_move_5 ?_
  refine lv_iload_n hx hb dX1_move_6 rfl (lv_at hl 2 rfl) ?_
  refine lv_iload_n hx hb dX1_move_7 rfl (lv_at hl 3 rfl) ?_
  obtain ⟨h_2, hf⟩ := ck_some hf
  refine g_iast (k := (9 + (a1).toNatClampNeg)) C I (gkn_9 (ixb_lt h_1)) (gkd_9 E o (ixb_lt h_1)) (ixb_in h_2) dX1_move_8 (fun H locs σ_3 eσ_3 I => ?_)
  have hf := lt_at hf eσ_3
  exact g_vret C I hr hlocks hf dX1_move_9
abbrev rm_X1_countOthers : Room := { frames := 0, cells := 0, slots := 0, locals := 0 }
abbrev WW_X1_countOthers (p : Program) (l : Launch) (e : Env) (s : State) (m : MethodId) (args : Array Value) (below : List Frame) (meth : Method) (c : Code) (E : En) (o : Int64) (res : Int32 × St) (H : Heap) (locs : List Loc) (cells slots : Nat) (g : JFrame) : Prop := W p l e (headSpec wsX1_countOthers rm_X1_countOthers).room s m args below meth c H locs cells slots (MQ below (Qi E s.heap.size o res.1 res.2) args s 0 0 (AA E s.heap.size)) g
theorem k_X1_countOthers_11 : Cond.fieldLink RX1 11 "DaySimulate$Fleet" "stationOf" "[[I" ∈ wsX1_countOthers := by decide +kernel
theorem k_X1_countOthers_16 : Cond.fieldLink RX1 16 "DaySimulate$Fleet" "units" "I" ∈ wsX1_countOthers := by decide +kernel
theorem in_X1_countOthers_X1 : ∀ w ∈ wsX10, w ∈ wsX1_countOthers := by decide +kernel
set_option maxHeartbeats 4000000 in
set_option maxRecDepth 100000 in
theorem lp_X1_countOthers_6 {l : Launch} {p : Program} {e : Env} {s : State} {m : MethodId} {args : Array Value} {below : List Frame} {meth : Method} {c : Code} {E : En} {o : Int64} {res : Int32 × St} (C : Cx p c cX1_countOthers 6 s m args wsX1_countOthers RX1 E) (hr : meth.sig.returnType = (some .int)) (hlocks : meth.locks = false) (b1 : Int32) (b2 : Int32) (b3 : Int32) (K43 : Int32 → St → Option (Int32 × St)) (hK43 : ∀ (u4 : Int32) (σ : St) (H : Heap) (locs : List Loc) (ls : Array Slot), K43 u4 σ = some res → Iv E (AA E s.heap.size) s.heap o σ H locs → lv_has ls 6 [(4, .int u4)] → WW_X1_countOthers p l e s m args below meth c E o res H locs 0 0 (F0 m 43 ls [])) :
    ∀ (n : Nat) (v4 : Int32) (v5 : Int32) (σ : St) (H : Heap) (locs : List Loc) (ls : Array Slot), f_X1_countOthers_L6 b1 b2 b3 K43 n v4 v5 σ = some res → Iv E (AA E s.heap.size) s.heap o σ H locs → lv_has ls 6 [(0, .ref (ad E 7)), (1, .int b1), (2, .int b2), (3, .int b3), (4, .int v4), (5, .int v5)] → WW_X1_countOthers p l e s m args below meth c E o res H locs 0 0 (F0 m 6 ls []) := by
  have hx := C.1.1
  have hb := C.1.2.1
  intro n
  induction n with
  | zero => intro v4 v5 σ H locs ls hf _ _; cases (show (none : Option (Int32 × St)) = some res from hf)
  | succ n ih =>
    intro v4 v5 σ H locs ls hf I hl
    rw [f_X1_countOthers_L6] at hf
    refine lv_iload hx hb dX1_countOthers_6 (lv_at hl 5 rfl) ?_
    refine lv_aload_n hx hb dX1_countOthers_8 rfl (lv_at hl 0 rfl) ?_
    refine g_get (k := 7) (v := .int (σ 7 1)) C I (by decide) (gk_7 E o _) rfl in_X1_countOthers_X1 1 (by decide) (C.1.2.2.2.2 _ k_X1_countOthers_16) rfl dX1_countOthers_9 ?_
    refine lv_icmp_ge (tgt := 43) hx hb dX1_countOthers_12 (by decide) (fun c_1 => ?_) (fun c_1 => ?_)
    · have hf := if_t hf c_1
      exact hK43 v4 σ H locs ls hf I (lv_sub hl [4] rfl)
    · have hf := if_f hf c_1
      refine lv_iload hx hb dX1_countOthers_15 (lv_at hl 5 rfl) ?_
      refine lv_iload_n hx hb dX1_countOthers_17 rfl (lv_at hl 3 rfl) ?_
      refine lv_icmp_eq (tgt := 37) hx hb dX1_countOthers_18 (by decide) (fun c_2 => ?_) (fun c_2 => ?_)
      · have hf := if_t hf c_2
        obtain ⟨x_3, ex_3⟩ : ∃ y : Int32, y = (v5 + (1 : Int32)) := ⟨_, rfl⟩
        have hf := lt_at hf ex_3
        refine lv_iinc (v := x_3) (lv' := [(5, .int x_3), (0, .ref (ad E 7)), (1, .int b1), (2, .int b2), (3, .int b3), (4, .int v4)]) hx hb dX1_countOthers_37 hl (k := 5) rfl (by rw [ex_3]; rfl) (by decide) rfl (fun ls hl => ?_)
        refine lv_goto (tgt := 6) hx hb dX1_countOthers_40 (by decide) ?_
        exact ih v4 x_3 σ H locs ls hf I (lv_sub hl [1, 2, 3, 4, 5, 0] rfl)
      · have hf := if_f hf c_2
        refine lv_aload_n hx hb dX1_countOthers_21 rfl (lv_at hl 0 rfl) ?_
        refine g_get (k := 7) (v := .ref (ad E 8)) C I (by decide) (gk_7 E o _) rfl in_X1_countOthers_X1 0 (by decide) (C.1.2.2.2.2 _ k_X1_countOthers_11) rfl dX1_countOthers_22 ?_
        refine lv_iload_n hx hb dX1_countOthers_25 rfl (lv_at hl 1 rfl) ?_
        obtain ⟨h_4, hf⟩ := ck_some hf
        refine g_aald (k := 8) (b := 9) C I (by decide) (gk_8 E o) (ixb_in h_4) (ixb_lt h_4) dX1_countOthers_26 ?_
        refine lv_iload hx hb dX1_countOthers_27 (lv_at hl 5 rfl) ?_
        obtain ⟨h_5, hf⟩ := ck_some hf
        refine g_iald (k := (9 + (b1).toNatClampNeg)) C I (gkn_9 (ixb_lt h_4)) (gkd_9 E o (ixb_lt h_4)) (ixb_in h_5) dX1_countOthers_29 ?_
        refine lv_iload_n hx hb dX1_countOthers_30 rfl (lv_at hl 2 rfl) ?_
        refine lv_icmp_ne (tgt := 37) hx hb dX1_countOthers_31 (by decide) (fun c_6 => ?_) (fun c_6 => ?_)
        · have hf := if_f hf c_6
          obtain ⟨x_7, ex_7⟩ : ∃ y : Int32, y = (v5 + (1 : Int32)) := ⟨_, rfl⟩
          have hf := lt_at hf ex_7
          refine lv_iinc (v := x_7) (lv' := [(5, .int x_7), (0, .ref (ad E 7)), (1, .int b1), (2, .int b2), (3, .int b3), (4, .int v4)]) hx hb dX1_countOthers_37 hl (k := 5) rfl (by rw [ex_7]; rfl) (by decide) rfl (fun ls hl => ?_)
          refine lv_goto (tgt := 6) hx hb dX1_countOthers_40 (by decide) ?_
          exact ih v4 x_7 σ H locs ls hf I (lv_sub hl [1, 2, 3, 4, 5, 0] rfl)
        · have hf := if_t hf c_6
          obtain ⟨x_8, ex_8⟩ : ∃ y : Int32, y = (v4 + (1 : Int32)) := ⟨_, rfl⟩
          have hf := lt_at hf ex_8
          refine lv_iinc (v := x_8) (lv' := [(4, .int x_8), (0, .ref (ad E 7)), (1, .int b1), (2, .int b2), (3, .int b3), (5, .int v5)]) hx hb dX1_countOthers_34 hl (k := 4) rfl (by rw [ex_8]; rfl) (by decide) rfl (fun ls hl => ?_)
          obtain ⟨x_9, ex_9⟩ : ∃ y : Int32, y = (v5 + (1 : Int32)) := ⟨_, rfl⟩
          have hf := lt_at hf ex_9
          refine lv_iinc (v := x_9) (lv' := [(5, .int x_9), (4, .int x_8), (0, .ref (ad E 7)), (1, .int b1), (2, .int b2), (3, .int b3)]) hx hb dX1_countOthers_37 hl (k := 5) rfl (by rw [ex_9]; rfl) (by decide) rfl (fun ls hl => ?_)
          refine lv_goto (tgt := 6) hx hb dX1_countOthers_40 (by decide) ?_
          exact ih x_8 x_9 σ H locs ls hf I (lv_sub hl [2, 3, 4, 5, 1, 0] rfl)
set_option maxHeartbeats 4000000 in
set_option maxRecDepth 100000 in
theorem c_X1_countOthers (l : Launch) (E : En) (o : Int64) (a1 : Int32) (a2 : Int32) (a3 : Int32) (σ : St) {res : Int32 × St} (hf : f_X1_countOthers a1 a2 a3 σ = some res) : CI l yX1_countOthers wsX1_countOthers rm_X1_countOthers E [.ref (ad E 7), .int a1, .int a2, .int a3] o σ res.1 res.2 := by
  intro sz
  refine Met.ofW (cc := cX1_countOthers) (maxL := 6) (ret := (some .int)) (by decide) rfl ?_
  intro p e s m args below meth c s₁ B hml hv
  obtain ⟨rfl, hv⟩ := hv
  obtain ⟨rfl, hK, I⟩ := hv.start
  have C : Cx p c cX1_countOthers 6 s m _ wsX1_countOthers RX1 E := ⟨⟨B.exec, B.bytes, hml, findClass_of_methodNamed B.named, atoms_spec (ws := wsX1_countOthers) B.pre⟩, hK⟩
  have hx := C.1.1
  have hb := C.1.2.1
  have hr := B.returns
  have hlocks := B.notSynchronized
  clear hv
  have hl := lv_entry ([.ref (ad E 7), .int a1, .int a2, .int a3]) (n := 6) (Nat.le_of_ble_eq_true rfl)
  rw [lg_entry_eq]
  generalize (lg_sl ([.ref (ad E 7), .int a1, .int a2, .int a3]) ++ List.replicate (6 - (lg_sl ([.ref (ad E 7), .int a1, .int a2, .int a3])).length) Slot.unset).toArray = ls at hl ⊢
  have hl : lv_has ls 6 [(0, .ref (ad E 7)), (1, .int a1), (2, .int a2), (3, .int a3)] := hl
  generalize ([.ref (ad E 7), .int a1, .int a2, .int a3] : List Value).toArray = args at C ⊢
  refine g_begin I (fun H locs I => ?_)
  rw [f_X1_countOthers] at hf
  refine lv_iconst (v := (0 : Int32)) hx hb dX1_countOthers_0 (by decide) ?_
  refine lv_istore (lv' := [(4, .int (0 : Int32)), (0, .ref (ad E 7)), (1, .int a1), (2, .int a2), (3, .int a3)]) hx hb dX1_countOthers_1 hl (by decide) rfl (fun ls hl => ?_)
  refine lv_iconst (v := (0 : Int32)) hx hb dX1_countOthers_3 (by decide) ?_
  refine lv_istore (lv' := [(5, .int (0 : Int32)), (4, .int (0 : Int32)), (0, .ref (ad E 7)), (1, .int a1), (2, .int a2), (3, .int a3)]) hx hb dX1_countOthers_4 hl (by decide) rfl (fun ls hl => ?_)
  refine lp_X1_countOthers_6 C hr hlocks a1 a2 a3 _ ?_ _ (0 : Int32) (0 : Int32) σ H locs ls hf I (lv_sub hl [2, 3, 4, 5, 1, 0] rfl)
  · intro y_10 σ_11 H locs ls hf I hl
    refine lv_iload hx hb dX1_countOthers_43 (lv_at hl 0 rfl) ?_
    exact g_iret C I hr hlocks hf dX1_countOthers_45
abbrev rm_X1_hasRoomInAllVariants : Room := { frames := 1, cells := 0, slots := 0, locals := 25 }
abbrev WW_X1_hasRoomInAllVariants (p : Program) (l : Launch) (e : Env) (s : State) (m : MethodId) (args : Array Value) (below : List Frame) (meth : Method) (c : Code) (E : En) (o : Int64) (res : Int32 × St) (H : Heap) (locs : List Loc) (cells slots : Nat) (g : JFrame) : Prop := W p l e (headSpec wsX1_hasRoomInAllVariants rm_X1_hasRoomInAllVariants).room s m args below meth c H locs cells slots (MQ below (Qi E s.heap.size o res.1 res.2) args s 0 0 (AA E s.heap.size)) g
set_option maxHeartbeats 4000000 in
set_option maxRecDepth 100000 in
theorem lp_X1_hasRoomInAllVariants_2 {l : Launch} {p : Program} {e : Env} {s : State} {m : MethodId} {args : Array Value} {below : List Frame} {meth : Method} {c : Code} {E : En} {o : Int64} {res : Int32 × St} (C : Cx p c cX1_hasRoomInAllVariants 3 s m args wsX1_hasRoomInAllVariants RX1 E) (hr : meth.sig.returnType = (some .boolean)) (hlocks : meth.locks = false) (b1 : Int32) (K18 : St → Option (Int32 × St)) (hK18 : ∀  (σ : St) (H : Heap) (locs : List Loc) (ls : Array Slot), K18 σ = some res → Iv E (AA E s.heap.size) s.heap o σ H locs → lv_has ls 3 [] → WW_X1_hasRoomInAllVariants p l e s m args below meth c E o res H locs 0 0 (F0 m 18 ls [])) (K26 : St → Option (Int32 × St)) (hK26 : ∀  (σ : St) (H : Heap) (locs : List Loc) (ls : Array Slot), K26 σ = some res → Iv E (AA E s.heap.size) s.heap o σ H locs → lv_has ls 3 [] → WW_X1_hasRoomInAllVariants p l e s m args below meth c E o res H locs 0 0 (F0 m 26 ls [])) :
    ∀ (n : Nat) (v2 : Int32) (σ : St) (H : Heap) (locs : List Loc) (ls : Array Slot), f_X1_hasRoomInAllVariants_L2 b1 K18 K26 n v2 σ = some res → Iv E (AA E s.heap.size) s.heap o σ H locs → lv_has ls 3 [(0, .ref (ad E 7)), (1, .int b1), (2, .int v2)] → WW_X1_hasRoomInAllVariants p l e s m args below meth c E o res H locs 0 0 (F0 m 2 ls []) := by
  have hx := C.1.1
  have hb := C.1.2.1
  intro n
  induction n with
  | zero => intro v2 σ H locs ls hf _ _; cases (show (none : Option (Int32 × St)) = some res from hf)
  | succ n ih =>
    intro v2 σ H locs ls hf I hl
    rw [f_X1_hasRoomInAllVariants_L2] at hf
    refine lv_iload_n hx hb dX1_hasRoomInAllVariants_2 rfl (lv_at hl 2 rfl) ?_
    refine lv_iconst (v := (4 : Int32)) hx hb dX1_hasRoomInAllVariants_3 (by decide) ?_
    refine lv_icmp_ge (tgt := 26) hx hb dX1_hasRoomInAllVariants_4 (by decide) (fun c_1 => ?_) (fun c_1 => ?_)
    · have hf := if_t hf c_1
      exact hK26  σ H locs ls hf I (lv_sub hl [] rfl)
    · have hf := if_f hf c_1
      refine lv_aload_n hx hb dX1_hasRoomInAllVariants_7 rfl (lv_at hl 0 rfl) ?_
      refine lv_iload_n hx hb dX1_hasRoomInAllVariants_8 rfl (lv_at hl 2 rfl) ?_
      refine lv_iload_n hx hb dX1_hasRoomInAllVariants_9 rfl (lv_at hl 1 rfl) ?_
      refine lv_iconst (v := (-1 : Int32)) hx hb dX1_hasRoomInAllVariants_10 (by decide) ?_
      obtain ⟨r_2, σ_3, hg_4, hf⟩ := bd_some hf
      refine g_cvi (av := [.int v2, .int b1, .int (-1 : Int32)]) (rest := []) (k := 7) C I AA.new (c_X1_countOthers l E o v2 b1 (-1 : Int32) σ hg_4) (cwV 3 C.1.2.2.2.2 gX1_hasRoomInAllVariants_X1_countOthers rfl rfl rfl (by decide +kernel) ⟨Nat.le_of_ble_eq_true rfl, Nat.le_of_ble_eq_true rfl⟩) (by decide) (gk_7 E o _) rfl rfl rfl hl.1 rfl (Nat.le_of_ble_eq_true rfl) ⟨Nat.le_of_ble_eq_true rfl, Nat.le_of_ble_eq_true rfl⟩ dX1_hasRoomInAllVariants_11 (fun H locs I => ?_)
      refine lv_iconst (v := (4 : Int32)) hx hb dX1_hasRoomInAllVariants_14 (by decide) ?_
      refine lv_icmp_lt (tgt := 20) hx hb dX1_hasRoomInAllVariants_15 (by decide) (fun c_5 => ?_) (fun c_5 => ?_)
      · have hf := if_t hf c_5
        obtain ⟨x_6, ex_6⟩ : ∃ y : Int32, y = (v2 + (1 : Int32)) := ⟨_, rfl⟩
        have hf := lt_at hf ex_6
        refine lv_iinc (v := x_6) (lv' := [(2, .int x_6), (0, .ref (ad E 7)), (1, .int b1)]) hx hb dX1_hasRoomInAllVariants_20 hl (k := 2) rfl (by rw [ex_6]; rfl) (by decide) rfl (fun ls hl => ?_)
        refine lv_goto (tgt := 2) hx hb dX1_hasRoomInAllVariants_23 (by decide) ?_
        exact ih x_6 σ_3 H locs ls hf I (lv_sub hl [1, 2, 0] rfl)
      · have hf := if_f hf c_5
        exact hK18  σ_3 H locs ls hf I (lv_sub hl [] rfl)
set_option maxHeartbeats 4000000 in
set_option maxRecDepth 100000 in
theorem c_X1_hasRoomInAllVariants (l : Launch) (E : En) (o : Int64) (a1 : Int32) (σ : St) {res : Int32 × St} (hf : f_X1_hasRoomInAllVariants a1 σ = some res) : CI l yX1_hasRoomInAllVariants wsX1_hasRoomInAllVariants rm_X1_hasRoomInAllVariants E [.ref (ad E 7), .int a1] o σ res.1 res.2 := by
  intro sz
  refine Met.ofW (cc := cX1_hasRoomInAllVariants) (maxL := 3) (ret := (some .boolean)) (by decide) rfl ?_
  intro p e s m args below meth c s₁ B hml hv
  obtain ⟨rfl, hv⟩ := hv
  obtain ⟨rfl, hK, I⟩ := hv.start
  have C : Cx p c cX1_hasRoomInAllVariants 3 s m _ wsX1_hasRoomInAllVariants RX1 E := ⟨⟨B.exec, B.bytes, hml, findClass_of_methodNamed B.named, atoms_spec (ws := wsX1_hasRoomInAllVariants) B.pre⟩, hK⟩
  have hx := C.1.1
  have hb := C.1.2.1
  have hr := B.returns
  have hlocks := B.notSynchronized
  clear hv
  have hl := lv_entry ([.ref (ad E 7), .int a1]) (n := 3) (Nat.le_of_ble_eq_true rfl)
  rw [lg_entry_eq]
  generalize (lg_sl ([.ref (ad E 7), .int a1]) ++ List.replicate (3 - (lg_sl ([.ref (ad E 7), .int a1])).length) Slot.unset).toArray = ls at hl ⊢
  have hl : lv_has ls 3 [(0, .ref (ad E 7)), (1, .int a1)] := hl
  generalize ([.ref (ad E 7), .int a1] : List Value).toArray = args at C ⊢
  refine g_begin I (fun H locs I => ?_)
  rw [f_X1_hasRoomInAllVariants] at hf
  refine lv_iconst (v := (0 : Int32)) hx hb dX1_hasRoomInAllVariants_0 (by decide) ?_
  refine lv_istore_n (lv' := [(2, .int (0 : Int32)), (0, .ref (ad E 7)), (1, .int a1)]) hx hb dX1_hasRoomInAllVariants_1 rfl hl (by decide) rfl (fun ls hl => ?_)
  refine lp_X1_hasRoomInAllVariants_2 C hr hlocks a1 _ ?_ _ ?_ _ (0 : Int32) σ H locs ls hf I (lv_sub hl [1, 2, 0] rfl)
  · intro  σ_7 H locs ls hf I hl
    refine lv_iconst (v := (0 : Int32)) hx hb dX1_hasRoomInAllVariants_18 (by decide) ?_
    exact g_zret C I hr hlocks rfl hf dX1_hasRoomInAllVariants_19
  · intro  σ_8 H locs ls hf I hl
    refine lv_iconst (v := (1 : Int32)) hx hb dX1_hasRoomInAllVariants_26 (by decide) ?_
    exact g_zret C I hr hlocks rfl hf dX1_hasRoomInAllVariants_27
abbrev rm_X3_wayMinutes : Room := { frames := 1, cells := 0, slots := 0, locals := 14 }
abbrev WW_X3_wayMinutes (p : Program) (l : Launch) (e : Env) (s : State) (m : MethodId) (args : Array Value) (below : List Frame) (meth : Method) (c : Code) (E : En) (o : Int64) (res : Int32 × St) (H : Heap) (locs : List Loc) (cells slots : Nat) (g : JFrame) : Prop := W p l e (headSpec wsX3_wayMinutes rm_X3_wayMinutes).room s m args below meth c H locs cells slots (MQ below (Qi E s.heap.size o res.1 res.2) args s 0 0 (AA E s.heap.size)) g
theorem k_X3_wayMinutes_43 : Cond.methodLink RX3 43 Lib.Math.abs.name ∈ wsX3_wayMinutes := by decide +kernel
theorem k_X3_wayMinutes_static_abs : Cond.static Lib.Math.abs.name ∈ wsX3_wayMinutes := by decide +kernel
theorem k_X3_wayMinutes_iniMath : Cond.initialized "java/lang/Math" ∈ wsX3_wayMinutes := by decide +kernel
theorem k_X3_wayMinutes_code_abs : Cond.code Lib.Math.abs.name Lib.Math.abs.code 1 (some .int) ∈ wsX3_wayMinutes := by decide +kernel
theorem k_X3_wayMinutes_21 : Cond.fieldLink RX3 21 "DaySimulate$Town" "areaY" "[I" ∈ wsX3_wayMinutes := by decide +kernel
theorem k_X3_wayMinutes_15 : Cond.fieldLink RX3 15 "DaySimulate$Town" "stationY" "[I" ∈ wsX3_wayMinutes := by decide +kernel
theorem k_X3_wayMinutes_18 : Cond.fieldLink RX3 18 "DaySimulate$Town" "areaX" "[I" ∈ wsX3_wayMinutes := by decide +kernel
theorem k_X3_wayMinutes_9 : Cond.fieldLink RX3 9 "DaySimulate$Town" "stationX" "[I" ∈ wsX3_wayMinutes := by decide +kernel
theorem in_X3_wayMinutes_X3 : ∀ w ∈ wsX30, w ∈ wsX3_wayMinutes := by decide +kernel
set_option maxHeartbeats 4000000 in
set_option maxRecDepth 100000 in
theorem c_X3_wayMinutes (l : Launch) (E : En) (o : Int64) (a1 : Int32) (a2 : Int32) (a3 : Int32) (σ : St) {res : Int32 × St} (hf : f_X3_wayMinutes a1 a2 a3 σ = some res) : CI l yX3_wayMinutes wsX3_wayMinutes rm_X3_wayMinutes E [.ref (ad E 1), .int a1, .int a2, .int a3] o σ res.1 res.2 := by
  intro sz
  refine Met.ofW (cc := cX3_wayMinutes) (maxL := 5) (ret := (some .int)) (by decide) rfl ?_
  intro p e s m args below meth c s₁ B hml hv
  obtain ⟨rfl, hv⟩ := hv
  obtain ⟨rfl, hK, I⟩ := hv.start
  have C : Cx p c cX3_wayMinutes 5 s m _ wsX3_wayMinutes RX3 E := ⟨⟨B.exec, B.bytes, hml, findClass_of_methodNamed B.named, atoms_spec (ws := wsX3_wayMinutes) B.pre⟩, hK⟩
  have hx := C.1.1
  have hb := C.1.2.1
  have hr := B.returns
  have hlocks := B.notSynchronized
  clear hv
  have hl := lv_entry ([.ref (ad E 1), .int a1, .int a2, .int a3]) (n := 5) (Nat.le_of_ble_eq_true rfl)
  rw [lg_entry_eq]
  generalize (lg_sl ([.ref (ad E 1), .int a1, .int a2, .int a3]) ++ List.replicate (5 - (lg_sl ([.ref (ad E 1), .int a1, .int a2, .int a3])).length) Slot.unset).toArray = ls at hl ⊢
  have hl : lv_has ls 5 [(0, .ref (ad E 1)), (1, .int a1), (2, .int a2), (3, .int a3)] := hl
  generalize ([.ref (ad E 1), .int a1, .int a2, .int a3] : List Value).toArray = args at C ⊢
  refine g_begin I (fun H locs I => ?_)
  rw [f_X3_wayMinutes] at hf
  refine lv_aload_n hx hb dX3_wayMinutes_0 rfl (lv_at hl 0 rfl) ?_
  refine g_get (k := 1) (v := .ref (ad E 2)) C I (by decide) (gk_1 E o _) rfl in_X3_wayMinutes_X3 0 (by decide) (C.1.2.2.2.2 _ k_X3_wayMinutes_9) rfl dX3_wayMinutes_1 ?_
  refine lv_iload_n hx hb dX3_wayMinutes_4 rfl (lv_at hl 1 rfl) ?_
  obtain ⟨h_1, hf⟩ := ck_some hf
  refine g_iald (k := 2) C I (by decide) (gk_2 E o) (ixb_in h_1) dX3_wayMinutes_5 ?_
  refine lv_aload_n hx hb dX3_wayMinutes_6 rfl (lv_at hl 0 rfl) ?_
  refine g_get (k := 1) (v := .ref (ad E 4)) C I (by decide) (gk_1 E o _) rfl in_X3_wayMinutes_X3 2 (by decide) (C.1.2.2.2.2 _ k_X3_wayMinutes_18) rfl dX3_wayMinutes_7 ?_
  refine lv_iload_n hx hb dX3_wayMinutes_10 rfl (lv_at hl 2 rfl) ?_
  obtain ⟨h_2, hf⟩ := ck_some hf
  refine g_iald (k := 4) C I (by decide) (gk_4 E o) (ixb_in h_2) dX3_wayMinutes_11 ?_
  refine lv_isub hx hb dX3_wayMinutes_12 ?_
  refine va_mabs hx hb (by rw [C.1.2.2.1]; exact hl.1.symm) C.1.2.2.2.1 (C.1.2.2.2.2 _ k_X3_wayMinutes_43) (C.1.2.2.2.2 _ k_X3_wayMinutes_static_abs) (C.1.2.2.2.2 _ k_X3_wayMinutes_iniMath) (C.1.2.2.2.2 _ k_X3_wayMinutes_code_abs) (Nat.le_of_ble_eq_true rfl) (Nat.le_of_ble_eq_true rfl) (Nat.le_of_ble_eq_true rfl) (Nat.le_of_ble_eq_true rfl) dX3_wayMinutes_13 ?_
  refine lv_topi (fun x_3 ex_3 => ?_)
  have hf := lt_at hf ex_3
  refine lv_aload_n hx hb dX3_wayMinutes_16 rfl (lv_at hl 0 rfl) ?_
  refine g_get (k := 1) (v := .ref (ad E 3)) C I (by decide) (gk_1 E o _) rfl in_X3_wayMinutes_X3 1 (by decide) (C.1.2.2.2.2 _ k_X3_wayMinutes_15) rfl dX3_wayMinutes_17 ?_
  refine lv_iload_n hx hb dX3_wayMinutes_20 rfl (lv_at hl 1 rfl) ?_
  obtain ⟨h_4, hf⟩ := ck_some hf
  refine g_iald (k := 3) C I (by decide) (gk_3 E o) (ixb_in h_4) dX3_wayMinutes_21 ?_
  refine lv_aload_n hx hb dX3_wayMinutes_22 rfl (lv_at hl 0 rfl) ?_
  refine g_get (k := 1) (v := .ref (ad E 5)) C I (by decide) (gk_1 E o _) rfl in_X3_wayMinutes_X3 3 (by decide) (C.1.2.2.2.2 _ k_X3_wayMinutes_21) rfl dX3_wayMinutes_23 ?_
  refine lv_iload_n hx hb dX3_wayMinutes_26 rfl (lv_at hl 2 rfl) ?_
  obtain ⟨h_5, hf⟩ := ck_some hf
  refine g_iald (k := 5) C I (by decide) (gk_5 E o) (ixb_in h_5) dX3_wayMinutes_27 ?_
  refine lv_isub hx hb dX3_wayMinutes_28 ?_
  refine va_mabs hx hb (by rw [C.1.2.2.1]; exact hl.1.symm) C.1.2.2.2.1 (C.1.2.2.2.2 _ k_X3_wayMinutes_43) (C.1.2.2.2.2 _ k_X3_wayMinutes_static_abs) (C.1.2.2.2.2 _ k_X3_wayMinutes_iniMath) (C.1.2.2.2.2 _ k_X3_wayMinutes_code_abs) (Nat.le_of_ble_eq_true rfl) (Nat.le_of_ble_eq_true rfl) (Nat.le_of_ble_eq_true rfl) (Nat.le_of_ble_eq_true rfl) dX3_wayMinutes_29 ?_
  refine lv_topi (fun x_6 ex_6 => ?_)
  have hf := lt_at hf ex_6
  refine lv_iadd hx hb dX3_wayMinutes_32 ?_
  refine lv_topi (fun x_7 ex_7 => ?_)
  have hf := lt_at hf ex_7
  refine lv_istore (lv' := [(4, .int x_7), (0, .ref (ad E 1)), (1, .int a1), (2, .int a2), (3, .int a3)]) hx hb dX3_wayMinutes_33 hl (by decide) rfl (fun ls hl => ?_)
  refine lv_iload hx hb dX3_wayMinutes_35 (lv_at hl 0 rfl) ?_
  refine lv_iload_n hx hb dX3_wayMinutes_37 rfl (lv_at hl 4 rfl) ?_
  refine lv_imul hx hb dX3_wayMinutes_38 ?_
  refine lv_iconst (v := (3 : Int32)) hx hb dX3_wayMinutes_39 (by decide) ?_
  refine lv_iadd hx hb dX3_wayMinutes_40 ?_
  refine lv_iconst (v := (4 : Int32)) hx hb dX3_wayMinutes_41 (by decide) ?_
  refine lv_idiv hx hb dX3_wayMinutes_42 (by decide) ?_
  exact g_iret C I hr hlocks hf dX3_wayMinutes_43
abbrev rm_X3_addStation : Room := { frames := 0, cells := 0, slots := 0, locals := 0 }
abbrev WW_X3_addStation (p : Program) (l : Launch) (e : Env) (s : State) (m : MethodId) (args : Array Value) (below : List Frame) (meth : Method) (c : Code) (E : En) (o : Int64) (res : Int32 × St) (H : Heap) (locs : List Loc) (cells slots : Nat) (g : JFrame) : Prop := W p l e (headSpec wsX3_addStation rm_X3_addStation).room s m args below meth c H locs cells slots (MQ below (Qi E s.heap.size o res.1 res.2) args s 0 0 (AA E s.heap.size)) g
theorem k_X3_addStation_27 : Cond.fieldLink RX3 27 "DaySimulate$Town" "stations" "I" ∈ wsX3_addStation := by decide +kernel
theorem k_X3_addStation_15 : Cond.fieldLink RX3 15 "DaySimulate$Town" "stationY" "[I" ∈ wsX3_addStation := by decide +kernel
theorem k_X3_addStation_9 : Cond.fieldLink RX3 9 "DaySimulate$Town" "stationX" "[I" ∈ wsX3_addStation := by decide +kernel
theorem in_X3_addStation_X3 : ∀ w ∈ wsX30, w ∈ wsX3_addStation := by decide +kernel
set_option maxHeartbeats 4000000 in
set_option maxRecDepth 100000 in
theorem c_X3_addStation (l : Launch) (E : En) (o : Int64) (a1 : Int32) (a2 : Int32) (σ : St) {res : Int32 × St} (hf : f_X3_addStation a1 a2 σ = some res) : CI l yX3_addStation wsX3_addStation rm_X3_addStation E [.ref (ad E 1), .int a1, .int a2] o σ res.1 res.2 := by
  intro sz
  refine Met.ofW (cc := cX3_addStation) (maxL := 3) (ret := (some .int)) (by decide) rfl ?_
  intro p e s m args below meth c s₁ B hml hv
  obtain ⟨rfl, hv⟩ := hv
  obtain ⟨rfl, hK, I⟩ := hv.start
  have C : Cx p c cX3_addStation 3 s m _ wsX3_addStation RX3 E := ⟨⟨B.exec, B.bytes, hml, findClass_of_methodNamed B.named, atoms_spec (ws := wsX3_addStation) B.pre⟩, hK⟩
  have hx := C.1.1
  have hb := C.1.2.1
  have hr := B.returns
  have hlocks := B.notSynchronized
  clear hv
  have hl := lv_entry ([.ref (ad E 1), .int a1, .int a2]) (n := 3) (Nat.le_of_ble_eq_true rfl)
  rw [lg_entry_eq]
  generalize (lg_sl ([.ref (ad E 1), .int a1, .int a2]) ++ List.replicate (3 - (lg_sl ([.ref (ad E 1), .int a1, .int a2])).length) Slot.unset).toArray = ls at hl ⊢
  have hl : lv_has ls 3 [(0, .ref (ad E 1)), (1, .int a1), (2, .int a2)] := hl
  generalize ([.ref (ad E 1), .int a1, .int a2] : List Value).toArray = args at C ⊢
  refine g_begin I (fun H locs I => ?_)
  rw [f_X3_addStation] at hf
  refine lv_aload_n hx hb dX3_addStation_0 rfl (lv_at hl 0 rfl) ?_
  refine g_get (k := 1) (v := .ref (ad E 2)) C I (by decide) (gk_1 E o _) rfl in_X3_addStation_X3 0 (by decide) (C.1.2.2.2.2 _ k_X3_addStation_9) rfl dX3_addStation_1 ?_
  refine lv_aload_n hx hb dX3_addStation_4 rfl (lv_at hl 0 rfl) ?_
  refine g_get (k := 1) (v := .int (σ 1 5)) C I (by decide) (gk_1 E o _) rfl in_X3_addStation_X3 5 (by decide) (C.1.2.2.2.2 _ k_X3_addStation_27) rfl dX3_addStation_5 ?_
  refine lv_iload_n hx hb dX3_addStation_8 rfl (lv_at hl 1 rfl) ?_
  obtain ⟨h_1, hf⟩ := ck_some hf
  refine g_iast (k := 2) C I (by decide) (gk_2 E o) (ixb_in h_1) dX3_addStation_9 (fun H locs σ_2 eσ_2 I => ?_)
  have hf := lt_at hf eσ_2
  refine lv_aload_n hx hb dX3_addStation_10 rfl (lv_at hl 0 rfl) ?_
  refine g_get (k := 1) (v := .ref (ad E 3)) C I (by decide) (gk_1 E o _) rfl in_X3_addStation_X3 1 (by decide) (C.1.2.2.2.2 _ k_X3_addStation_15) rfl dX3_addStation_11 ?_
  refine lv_aload_n hx hb dX3_addStation_14 rfl (lv_at hl 0 rfl) ?_
  refine g_get (k := 1) (v := .int (σ_2 1 5)) C I (by decide) (gk_1 E o _) rfl in_X3_addStation_X3 5 (by decide) (C.1.2.2.2.2 _ k_X3_addStation_27) rfl dX3_addStation_15 ?_
  refine lv_iload_n hx hb dX3_addStation_18 rfl (lv_at hl 2 rfl) ?_
  obtain ⟨h_3, hf⟩ := ck_some hf
  refine g_iast (k := 3) C I (by decide) (gk_3 E o) (ixb_in h_3) dX3_addStation_19 (fun H locs σ_4 eσ_4 I => ?_)
  have hf := lt_at hf eσ_4
  refine lv_aload_n hx hb dX3_addStation_20 rfl (lv_at hl 0 rfl) ?_
  refine lv_dup hx hb dX3_addStation_21 rfl ?_
  refine g_get (k := 1) (v := .int (σ_4 1 5)) C I (by decide) (gk_1 E o _) rfl in_X3_addStation_X3 5 (by decide) (C.1.2.2.2.2 _ k_X3_addStation_27) rfl dX3_addStation_22 ?_
  refine lv_dup_x1 hx hb dX3_addStation_25 rfl rfl ?_
  refine lv_iconst (v := (1 : Int32)) hx hb dX3_addStation_26 (by decide) ?_
  refine lv_iadd hx hb dX3_addStation_27 ?_
  refine g_put (k := 1) (v := ((σ_4 1 5) + (1 : Int32))) C I (by decide) (gk_1 E o) rfl in_X3_addStation_X3 tyX3 tyX3_ok nmX3 5 (by decide) (C.1.2.2.2.2 _ k_X3_addStation_27) rfl (by decide +kernel) (Nat.le_of_ble_eq_true rfl) rfl dX3_addStation_28 (fun H locs σ_5 eσ_5 I => ?_)
  have hf := lt_at hf eσ_5
  exact g_iret C I hr hlocks hf dX3_addStation_31
abbrev rm_X3_addArea : Room := { frames := 0, cells := 0, slots := 0, locals := 0 }
abbrev WW_X3_addArea (p : Program) (l : Launch) (e : Env) (s : State) (m : MethodId) (args : Array Value) (below : List Frame) (meth : Method) (c : Code) (E : En) (o : Int64) (res : Int32 × St) (H : Heap) (locs : List Loc) (cells slots : Nat) (g : JFrame) : Prop := W p l e (headSpec wsX3_addArea rm_X3_addArea).room s m args below meth c H locs cells slots (MQ below (Qi E s.heap.size o res.1 res.2) args s 0 0 (AA E s.heap.size)) g
theorem k_X3_addArea_31 : Cond.fieldLink RX3 31 "DaySimulate$Town" "areas" "I" ∈ wsX3_addArea := by decide +kernel
theorem k_X3_addArea_34 : Cond.fieldLink RX3 34 "DaySimulate$Town" "weightSum" "I" ∈ wsX3_addArea := by decide +kernel
theorem k_X3_addArea_24 : Cond.fieldLink RX3 24 "DaySimulate$Town" "weight" "[I" ∈ wsX3_addArea := by decide +kernel
theorem k_X3_addArea_21 : Cond.fieldLink RX3 21 "DaySimulate$Town" "areaY" "[I" ∈ wsX3_addArea := by decide +kernel
theorem k_X3_addArea_18 : Cond.fieldLink RX3 18 "DaySimulate$Town" "areaX" "[I" ∈ wsX3_addArea := by decide +kernel
theorem in_X3_addArea_X3 : ∀ w ∈ wsX30, w ∈ wsX3_addArea := by decide +kernel
set_option maxHeartbeats 4000000 in
set_option maxRecDepth 100000 in
theorem c_X3_addArea (l : Launch) (E : En) (o : Int64) (a1 : Int32) (a2 : Int32) (a3 : Int32) (σ : St) {res : Int32 × St} (hf : f_X3_addArea a1 a2 a3 σ = some res) : CI l yX3_addArea wsX3_addArea rm_X3_addArea E [.ref (ad E 1), .int a1, .int a2, .int a3] o σ res.1 res.2 := by
  intro sz
  refine Met.ofW (cc := cX3_addArea) (maxL := 4) (ret := (some .int)) (by decide) rfl ?_
  intro p e s m args below meth c s₁ B hml hv
  obtain ⟨rfl, hv⟩ := hv
  obtain ⟨rfl, hK, I⟩ := hv.start
  have C : Cx p c cX3_addArea 4 s m _ wsX3_addArea RX3 E := ⟨⟨B.exec, B.bytes, hml, findClass_of_methodNamed B.named, atoms_spec (ws := wsX3_addArea) B.pre⟩, hK⟩
  have hx := C.1.1
  have hb := C.1.2.1
  have hr := B.returns
  have hlocks := B.notSynchronized
  clear hv
  have hl := lv_entry ([.ref (ad E 1), .int a1, .int a2, .int a3]) (n := 4) (Nat.le_of_ble_eq_true rfl)
  rw [lg_entry_eq]
  generalize (lg_sl ([.ref (ad E 1), .int a1, .int a2, .int a3]) ++ List.replicate (4 - (lg_sl ([.ref (ad E 1), .int a1, .int a2, .int a3])).length) Slot.unset).toArray = ls at hl ⊢
  have hl : lv_has ls 4 [(0, .ref (ad E 1)), (1, .int a1), (2, .int a2), (3, .int a3)] := hl
  generalize ([.ref (ad E 1), .int a1, .int a2, .int a3] : List Value).toArray = args at C ⊢
  refine g_begin I (fun H locs I => ?_)
  rw [f_X3_addArea] at hf
  refine lv_aload_n hx hb dX3_addArea_0 rfl (lv_at hl 0 rfl) ?_
  refine g_get (k := 1) (v := .ref (ad E 4)) C I (by decide) (gk_1 E o _) rfl in_X3_addArea_X3 2 (by decide) (C.1.2.2.2.2 _ k_X3_addArea_18) rfl dX3_addArea_1 ?_
  refine lv_aload_n hx hb dX3_addArea_4 rfl (lv_at hl 0 rfl) ?_
  refine g_get (k := 1) (v := .int (σ 1 6)) C I (by decide) (gk_1 E o _) rfl in_X3_addArea_X3 6 (by decide) (C.1.2.2.2.2 _ k_X3_addArea_31) rfl dX3_addArea_5 ?_
  refine lv_iload_n hx hb dX3_addArea_8 rfl (lv_at hl 1 rfl) ?_
  obtain ⟨h_1, hf⟩ := ck_some hf
  refine g_iast (k := 4) C I (by decide) (gk_4 E o) (ixb_in h_1) dX3_addArea_9 (fun H locs σ_2 eσ_2 I => ?_)
  have hf := lt_at hf eσ_2
  refine lv_aload_n hx hb dX3_addArea_10 rfl (lv_at hl 0 rfl) ?_
  refine g_get (k := 1) (v := .ref (ad E 5)) C I (by decide) (gk_1 E o _) rfl in_X3_addArea_X3 3 (by decide) (C.1.2.2.2.2 _ k_X3_addArea_21) rfl dX3_addArea_11 ?_
  refine lv_aload_n hx hb dX3_addArea_14 rfl (lv_at hl 0 rfl) ?_
  refine g_get (k := 1) (v := .int (σ_2 1 6)) C I (by decide) (gk_1 E o _) rfl in_X3_addArea_X3 6 (by decide) (C.1.2.2.2.2 _ k_X3_addArea_31) rfl dX3_addArea_15 ?_
  refine lv_iload_n hx hb dX3_addArea_18 rfl (lv_at hl 2 rfl) ?_
  obtain ⟨h_3, hf⟩ := ck_some hf
  refine g_iast (k := 5) C I (by decide) (gk_5 E o) (ixb_in h_3) dX3_addArea_19 (fun H locs σ_4 eσ_4 I => ?_)
  have hf := lt_at hf eσ_4
  refine lv_aload_n hx hb dX3_addArea_20 rfl (lv_at hl 0 rfl) ?_
  refine g_get (k := 1) (v := .ref (ad E 6)) C I (by decide) (gk_1 E o _) rfl in_X3_addArea_X3 4 (by decide) (C.1.2.2.2.2 _ k_X3_addArea_24) rfl dX3_addArea_21 ?_
  refine lv_aload_n hx hb dX3_addArea_24 rfl (lv_at hl 0 rfl) ?_
  refine g_get (k := 1) (v := .int (σ_4 1 6)) C I (by decide) (gk_1 E o _) rfl in_X3_addArea_X3 6 (by decide) (C.1.2.2.2.2 _ k_X3_addArea_31) rfl dX3_addArea_25 ?_
  refine lv_iload_n hx hb dX3_addArea_28 rfl (lv_at hl 3 rfl) ?_
  obtain ⟨h_5, hf⟩ := ck_some hf
  refine g_iast (k := 6) C I (by decide) (gk_6 E o) (ixb_in h_5) dX3_addArea_29 (fun H locs σ_6 eσ_6 I => ?_)
  have hf := lt_at hf eσ_6
  refine lv_aload_n hx hb dX3_addArea_30 rfl (lv_at hl 0 rfl) ?_
  refine lv_dup hx hb dX3_addArea_31 rfl ?_
  refine g_get (k := 1) (v := .int (σ_6 1 7)) C I (by decide) (gk_1 E o _) rfl in_X3_addArea_X3 7 (by decide) (C.1.2.2.2.2 _ k_X3_addArea_34) rfl dX3_addArea_32 ?_
  refine lv_iload_n hx hb dX3_addArea_35 rfl (lv_at hl 3 rfl) ?_
  refine lv_iadd hx hb dX3_addArea_36 ?_
  refine g_put (k := 1) (v := ((σ_6 1 7) + a3)) C I (by decide) (gk_1 E o) rfl in_X3_addArea_X3 tyX3 tyX3_ok nmX3 7 (by decide) (C.1.2.2.2.2 _ k_X3_addArea_34) rfl (by decide +kernel) (Nat.le_of_ble_eq_true rfl) rfl dX3_addArea_37 (fun H locs σ_7 eσ_7 I => ?_)
  have hf := lt_at hf eσ_7
  refine lv_aload_n hx hb dX3_addArea_40 rfl (lv_at hl 0 rfl) ?_
  refine lv_dup hx hb dX3_addArea_41 rfl ?_
  refine g_get (k := 1) (v := .int (σ_7 1 6)) C I (by decide) (gk_1 E o _) rfl in_X3_addArea_X3 6 (by decide) (C.1.2.2.2.2 _ k_X3_addArea_31) rfl dX3_addArea_42 ?_
  refine lv_dup_x1 hx hb dX3_addArea_45 rfl rfl ?_
  refine lv_iconst (v := (1 : Int32)) hx hb dX3_addArea_46 (by decide) ?_
  refine lv_iadd hx hb dX3_addArea_47 ?_
  refine g_put (k := 1) (v := ((σ_7 1 6) + (1 : Int32))) C I (by decide) (gk_1 E o) rfl in_X3_addArea_X3 tyX3 tyX3_ok nmX3 6 (by decide) (C.1.2.2.2.2 _ k_X3_addArea_31) rfl (by decide +kernel) (Nat.le_of_ble_eq_true rfl) rfl dX3_addArea_48 (fun H locs σ_8 eσ_8 I => ?_)
  have hf := lt_at hf eσ_8
  exact g_iret C I hr hlocks hf dX3_addArea_51
abbrev rm_X4_isBelow : Room := { frames := 0, cells := 0, slots := 0, locals := 0 }
abbrev WW_X4_isBelow (p : Program) (l : Launch) (e : Env) (s : State) (m : MethodId) (args : Array Value) (below : List Frame) (meth : Method) (c : Code) (E : En) (o : Int64) (res : Int32 × St) (H : Heap) (locs : List Loc) (cells slots : Nat) (g : JFrame) : Prop := W p l e (headSpec wsX4_isBelow rm_X4_isBelow).room s m args below meth c H locs cells slots (MQ below (Qi E s.heap.size o res.1 res.2) args s 0 0 (AA E s.heap.size)) g
set_option maxHeartbeats 4000000 in
set_option maxRecDepth 100000 in
theorem c_X4_isBelow (l : Launch) (E : En) (o : Int64) (a0 : Int32) (a1 : Int32) (σ : St) {res : Int32 × St} (hf : f_X4_isBelow a0 a1 σ = some res) : CI l yX4_isBelow wsX4_isBelow rm_X4_isBelow E [.int a0, .int a1] o σ res.1 res.2 := by
  intro sz
  refine Met.ofW (cc := cX4_isBelow) (maxL := 2) (ret := (some .boolean)) (by decide) rfl ?_
  intro p e s m args below meth c s₁ B hml hv
  obtain ⟨rfl, hv⟩ := hv
  obtain ⟨rfl, hK, I⟩ := hv.start
  have C : Cx p c cX4_isBelow 2 s m _ wsX4_isBelow RX4 E := ⟨⟨B.exec, B.bytes, hml, findClass_of_methodNamed B.named, atoms_spec (ws := wsX4_isBelow) B.pre⟩, hK⟩
  have hx := C.1.1
  have hb := C.1.2.1
  have hr := B.returns
  have hlocks := B.notSynchronized
  clear hv
  have hl := lv_entry ([.int a0, .int a1]) (n := 2) (Nat.le_of_ble_eq_true rfl)
  rw [lg_entry_eq]
  generalize (lg_sl ([.int a0, .int a1]) ++ List.replicate (2 - (lg_sl ([.int a0, .int a1])).length) Slot.unset).toArray = ls at hl ⊢
  have hl : lv_has ls 2 [(0, .int a0), (1, .int a1)] := hl
  generalize ([.int a0, .int a1] : List Value).toArray = args at C ⊢
  refine g_begin I (fun H locs I => ?_)
  rw [f_X4_isBelow] at hf
  refine lv_iload_n hx hb dX4_isBelow_0 rfl (lv_at hl 0 rfl) ?_
  refine lv_if_lt (tgt := 13) hx hb dX4_isBelow_1 (by decide) (fun c_1 => ?_) (fun c_1 => ?_)
  · have hf := if_t hf c_1
    refine lv_iconst (v := (0 : Int32)) hx hb dX4_isBelow_13 (by decide) ?_
    exact g_zret C I hr hlocks rfl hf dX4_isBelow_14
  · have hf := if_f hf c_1
    refine lv_iload_n hx hb dX4_isBelow_4 rfl (lv_at hl 0 rfl) ?_
    refine lv_iload_n hx hb dX4_isBelow_5 rfl (lv_at hl 1 rfl) ?_
    refine lv_icmp_ge (tgt := 13) hx hb dX4_isBelow_6 (by decide) (fun c_2 => ?_) (fun c_2 => ?_)
    · have hf := if_t hf c_2
      refine lv_iconst (v := (0 : Int32)) hx hb dX4_isBelow_13 (by decide) ?_
      exact g_zret C I hr hlocks rfl hf dX4_isBelow_14
    · have hf := if_f hf c_2
      refine lv_iconst (v := (1 : Int32)) hx hb dX4_isBelow_9 (by decide) ?_
      refine lv_goto (tgt := 14) hx hb dX4_isBelow_10 (by decide) ?_
      exact g_zret C I hr hlocks rfl hf dX4_isBelow_14
abbrev rm_X4_isPlace : Room := { frames := 1, cells := 0, slots := 0, locals := 21 }
abbrev WW_X4_isPlace (p : Program) (l : Launch) (e : Env) (s : State) (m : MethodId) (args : Array Value) (below : List Frame) (meth : Method) (c : Code) (E : En) (o : Int64) (res : Int32 × St) (H : Heap) (locs : List Loc) (cells slots : Nat) (g : JFrame) : Prop := W p l e (headSpec wsX4_isPlace rm_X4_isPlace).room s m args below meth c H locs cells slots (MQ below (Qi E s.heap.size o res.1 res.2) args s 0 0 (AA E s.heap.size)) g
set_option maxHeartbeats 4000000 in
set_option maxRecDepth 100000 in
theorem c_X4_isPlace (l : Launch) (E : En) (o : Int64) (a0 : Int32) (a1 : Int32) (σ : St) {res : Int32 × St} (hf : f_X4_isPlace a0 a1 σ = some res) : CI l yX4_isPlace wsX4_isPlace rm_X4_isPlace E [.int a0, .int a1] o σ res.1 res.2 := by
  intro sz
  refine Met.ofW (cc := cX4_isPlace) (maxL := 2) (ret := (some .boolean)) (by decide) rfl ?_
  intro p e s m args below meth c s₁ B hml hv
  obtain ⟨rfl, hv⟩ := hv
  obtain ⟨rfl, hK, I⟩ := hv.start
  have C : Cx p c cX4_isPlace 2 s m _ wsX4_isPlace RX4 E := ⟨⟨B.exec, B.bytes, hml, findClass_of_methodNamed B.named, atoms_spec (ws := wsX4_isPlace) B.pre⟩, hK⟩
  have hx := C.1.1
  have hb := C.1.2.1
  have hr := B.returns
  have hlocks := B.notSynchronized
  clear hv
  have hl := lv_entry ([.int a0, .int a1]) (n := 2) (Nat.le_of_ble_eq_true rfl)
  rw [lg_entry_eq]
  generalize (lg_sl ([.int a0, .int a1]) ++ List.replicate (2 - (lg_sl ([.int a0, .int a1])).length) Slot.unset).toArray = ls at hl ⊢
  have hl : lv_has ls 2 [(0, .int a0), (1, .int a1)] := hl
  generalize ([.int a0, .int a1] : List Value).toArray = args at C ⊢
  refine g_begin I (fun H locs I => ?_)
  rw [f_X4_isPlace] at hf
  refine lv_iload_n hx hb dX4_isPlace_0 rfl (lv_at hl 0 rfl) ?_
  refine lv_bipush (v := (100 : Int32)) hx hb dX4_isPlace_1 (by decide) ?_
  obtain ⟨r_1, σ_2, hg_3, hf⟩ := bd_some hf
  refine g_csi (av := [.int a0, .int (100 : Int32)]) (rest := []) C I AA.new (c_X4_isBelow l E o a0 (100 : Int32) σ hg_3) (cwS 2 C.1.2.2.2.2 gX4_isPlace_X4_isBelow rfl rfl rfl (by decide +kernel) ⟨Nat.le_of_ble_eq_true rfl, Nat.le_of_ble_eq_true rfl⟩) rfl hl.1 rfl (Nat.le_of_ble_eq_true rfl) ⟨Nat.le_of_ble_eq_true rfl, Nat.le_of_ble_eq_true rfl⟩ dX4_isPlace_3 (fun H locs I => ?_)
  refine lv_if_eq (tgt := 22) hx hb dX4_isPlace_6 (by decide) (fun c_4 => ?_) (fun c_4 => ?_)
  · have hf := if_t hf c_4
    refine lv_iconst (v := (0 : Int32)) hx hb dX4_isPlace_22 (by decide) ?_
    exact g_zret C I hr hlocks rfl hf dX4_isPlace_23
  · have hf := if_f hf c_4
    refine lv_iload_n hx hb dX4_isPlace_9 rfl (lv_at hl 1 rfl) ?_
    refine lv_bipush (v := (100 : Int32)) hx hb dX4_isPlace_10 (by decide) ?_
    obtain ⟨r_5, σ_6, hg_7, hf⟩ := bd_some hf
    refine g_csi (av := [.int a1, .int (100 : Int32)]) (rest := []) C I AA.new (c_X4_isBelow l E o a1 (100 : Int32) σ_2 hg_7) (cwS 2 C.1.2.2.2.2 gX4_isPlace_X4_isBelow rfl rfl rfl (by decide +kernel) ⟨Nat.le_of_ble_eq_true rfl, Nat.le_of_ble_eq_true rfl⟩) rfl hl.1 rfl (Nat.le_of_ble_eq_true rfl) ⟨Nat.le_of_ble_eq_true rfl, Nat.le_of_ble_eq_true rfl⟩ dX4_isPlace_12 (fun H locs I => ?_)
    refine lv_if_eq (tgt := 22) hx hb dX4_isPlace_15 (by decide) (fun c_8 => ?_) (fun c_8 => ?_)
    · have hf := if_t hf c_8
      refine lv_iconst (v := (0 : Int32)) hx hb dX4_isPlace_22 (by decide) ?_
      exact g_zret C I hr hlocks rfl hf dX4_isPlace_23
    · have hf := if_f hf c_8
      refine lv_iconst (v := (1 : Int32)) hx hb dX4_isPlace_18 (by decide) ?_
      refine lv_goto (tgt := 23) hx hb dX4_isPlace_19 (by decide) ?_
      exact g_zret C I hr hlocks rfl hf dX4_isPlace_23
abbrev rm_X4_isWithin : Room := { frames := 0, cells := 0, slots := 0, locals := 0 }
abbrev WW_X4_isWithin (p : Program) (l : Launch) (e : Env) (s : State) (m : MethodId) (args : Array Value) (below : List Frame) (meth : Method) (c : Code) (E : En) (o : Int64) (res : Int32 × St) (H : Heap) (locs : List Loc) (cells slots : Nat) (g : JFrame) : Prop := W p l e (headSpec wsX4_isWithin rm_X4_isWithin).room s m args below meth c H locs cells slots (MQ below (Qi E s.heap.size o res.1 res.2) args s 0 0 (AA E s.heap.size)) g
set_option maxHeartbeats 4000000 in
set_option maxRecDepth 100000 in
theorem c_X4_isWithin (l : Launch) (E : En) (o : Int64) (a0 : Int32) (a1 : Int32) (a2 : Int32) (σ : St) {res : Int32 × St} (hf : f_X4_isWithin a0 a1 a2 σ = some res) : CI l yX4_isWithin wsX4_isWithin rm_X4_isWithin E [.int a0, .int a1, .int a2] o σ res.1 res.2 := by
  intro sz
  refine Met.ofW (cc := cX4_isWithin) (maxL := 3) (ret := (some .boolean)) (by decide) rfl ?_
  intro p e s m args below meth c s₁ B hml hv
  obtain ⟨rfl, hv⟩ := hv
  obtain ⟨rfl, hK, I⟩ := hv.start
  have C : Cx p c cX4_isWithin 3 s m _ wsX4_isWithin RX4 E := ⟨⟨B.exec, B.bytes, hml, findClass_of_methodNamed B.named, atoms_spec (ws := wsX4_isWithin) B.pre⟩, hK⟩
  have hx := C.1.1
  have hb := C.1.2.1
  have hr := B.returns
  have hlocks := B.notSynchronized
  clear hv
  have hl := lv_entry ([.int a0, .int a1, .int a2]) (n := 3) (Nat.le_of_ble_eq_true rfl)
  rw [lg_entry_eq]
  generalize (lg_sl ([.int a0, .int a1, .int a2]) ++ List.replicate (3 - (lg_sl ([.int a0, .int a1, .int a2])).length) Slot.unset).toArray = ls at hl ⊢
  have hl : lv_has ls 3 [(0, .int a0), (1, .int a1), (2, .int a2)] := hl
  generalize ([.int a0, .int a1, .int a2] : List Value).toArray = args at C ⊢
  refine g_begin I (fun H locs I => ?_)
  rw [f_X4_isWithin] at hf
  refine lv_iload_n hx hb dX4_isWithin_0 rfl (lv_at hl 0 rfl) ?_
  refine lv_iload_n hx hb dX4_isWithin_1 rfl (lv_at hl 1 rfl) ?_
  refine lv_icmp_lt (tgt := 14) hx hb dX4_isWithin_2 (by decide) (fun c_1 => ?_) (fun c_1 => ?_)
  · have hf := if_t hf c_1
    refine lv_iconst (v := (0 : Int32)) hx hb dX4_isWithin_14 (by decide) ?_
    exact g_zret C I hr hlocks rfl hf dX4_isWithin_15
  · have hf := if_f hf c_1
    refine lv_iload_n hx hb dX4_isWithin_5 rfl (lv_at hl 0 rfl) ?_
    refine lv_iload_n hx hb dX4_isWithin_6 rfl (lv_at hl 2 rfl) ?_
    refine lv_icmp_gt (tgt := 14) hx hb dX4_isWithin_7 (by decide) (fun c_2 => ?_) (fun c_2 => ?_)
    · have hf := if_t hf c_2
      refine lv_iconst (v := (0 : Int32)) hx hb dX4_isWithin_14 (by decide) ?_
      exact g_zret C I hr hlocks rfl hf dX4_isWithin_15
    · have hf := if_f hf c_2
      refine lv_iconst (v := (1 : Int32)) hx hb dX4_isWithin_10 (by decide) ?_
      refine lv_goto (tgt := 15) hx hb dX4_isWithin_11 (by decide) ?_
      exact g_zret C I hr hlocks rfl hf dX4_isWithin_15
abbrev rm_X4_commonDivisor : Room := { frames := 1, cells := 0, slots := 0, locals := 13 }
abbrev WW_X4_commonDivisor (p : Program) (l : Launch) (e : Env) (s : State) (m : MethodId) (args : Array Value) (below : List Frame) (meth : Method) (c : Code) (E : En) (o : Int64) (res : Int32 × St) (H : Heap) (locs : List Loc) (cells slots : Nat) (g : JFrame) : Prop := W p l e (headSpec wsX4_commonDivisor rm_X4_commonDivisor).room s m args below meth c H locs cells slots (MQ below (Qi E s.heap.size o res.1 res.2) args s 0 0 (AA E s.heap.size)) g
theorem k_X4_commonDivisor_188 : Cond.methodLink RX4 188 Lib.Math.max.name ∈ wsX4_commonDivisor := by decide +kernel
theorem k_X4_commonDivisor_static_max : Cond.static Lib.Math.max.name ∈ wsX4_commonDivisor := by decide +kernel
theorem k_X4_commonDivisor_iniMath : Cond.initialized "java/lang/Math" ∈ wsX4_commonDivisor := by decide +kernel
theorem k_X4_commonDivisor_code_max : Cond.code Lib.Math.max.name Lib.Math.max.code 2 (some .int) ∈ wsX4_commonDivisor := by decide +kernel
set_option maxHeartbeats 4000000 in
set_option maxRecDepth 100000 in
theorem lp_X4_commonDivisor_7 {l : Launch} {p : Program} {e : Env} {s : State} {m : MethodId} {args : Array Value} {below : List Frame} {meth : Method} {c : Code} {E : En} {o : Int64} {res : Int32 × St} (C : Cx p c cX4_commonDivisor 6 s m args wsX4_commonDivisor RX4 E) (hr : meth.sig.returnType = (some .int)) (hlocks : meth.locks = false)  (K34 : Int32 → St → Option (Int32 × St)) (hK34 : ∀ (u2 : Int32) (σ : St) (H : Heap) (locs : List Loc) (ls : Array Slot), K34 u2 σ = some res → Iv E (AA E s.heap.size) s.heap o σ H locs → lv_has ls 6 [(2, .int u2)] → WW_X4_commonDivisor p l e s m args below meth c E o res H locs 0 0 (F0 m 34 ls [])) :
    ∀ (n : Nat) (v2 : Int32) (v3 : Int32) (v4 : Int32) (σ : St) (H : Heap) (locs : List Loc) (ls : Array Slot), f_X4_commonDivisor_L7 K34 n v2 v3 v4 σ = some res → Iv E (AA E s.heap.size) s.heap o σ H locs → lv_has ls 6 [(2, .int v2), (3, .int v3), (4, .int v4)] → WW_X4_commonDivisor p l e s m args below meth c E o res H locs 0 0 (F0 m 7 ls []) := by
  have hx := C.1.1
  have hb := C.1.2.1
  intro n
  induction n with
  | zero => intro v2 v3 v4 σ H locs ls hf _ _; cases (show (none : Option (Int32 × St)) = some res from hf)
  | succ n ih =>
    intro v2 v3 v4 σ H locs ls hf I hl
    rw [f_X4_commonDivisor_L7] at hf
    refine lv_iload hx hb dX4_commonDivisor_7 (lv_at hl 2 rfl) ?_
    refine lv_bipush (v := (100 : Int32)) hx hb dX4_commonDivisor_9 (by decide) ?_
    refine lv_icmp_ge (tgt := 34) hx hb dX4_commonDivisor_11 (by decide) (fun c_1 => ?_) (fun c_1 => ?_)
    · have hf := if_t hf c_1
      exact hK34 v2 σ H locs ls hf I (lv_sub hl [0] rfl)
    · have hf := if_f hf c_1
      refine lv_iload_n hx hb dX4_commonDivisor_14 rfl (lv_at hl 1 rfl) ?_
      refine lv_if_eq (tgt := 34) hx hb dX4_commonDivisor_15 (by decide) (fun c_2 => ?_) (fun c_2 => ?_)
      · have hf := if_t hf c_2
        exact hK34 v2 σ H locs ls hf I (lv_sub hl [0] rfl)
      · have hf := if_f hf c_2
        refine lv_iload_n hx hb dX4_commonDivisor_18 rfl (lv_at hl 0 rfl) ?_
        refine lv_iload_n hx hb dX4_commonDivisor_19 rfl (lv_at hl 1 rfl) ?_
        obtain ⟨h_5, hf⟩ := ck_some hf
        refine lv_irem hx hb dX4_commonDivisor_20 (nzb_ne h_5) ?_
        refine lv_topi (fun x_3 ex_3 => ?_)
        have hf := lt_at hf ex_3
        refine lv_istore (lv' := [(5, .int x_3), (2, .int v2), (3, .int v3), (4, .int v4)]) hx hb dX4_commonDivisor_21 hl (by decide) rfl (fun ls hl => ?_)
        refine lv_iload_n hx hb dX4_commonDivisor_23 rfl (lv_at hl 2 rfl) ?_
        refine lv_istore_n (lv' := [(2, .int v3), (5, .int x_3), (3, .int v3), (4, .int v4)]) hx hb dX4_commonDivisor_24 rfl hl (by decide) rfl (fun ls hl => ?_)
        refine lv_iload hx hb dX4_commonDivisor_25 (lv_at hl 1 rfl) ?_
        refine lv_istore_n (lv' := [(3, .int x_3), (2, .int v3), (5, .int x_3), (4, .int v4)]) hx hb dX4_commonDivisor_27 rfl hl (by decide) rfl (fun ls hl => ?_)
        obtain ⟨x_4, ex_4⟩ : ∃ y : Int32, y = (v4 + (1 : Int32)) := ⟨_, rfl⟩
        have hf := lt_at hf ex_4
        refine lv_iinc (v := x_4) (lv' := [(4, .int x_4), (3, .int x_3), (2, .int v3), (5, .int x_3)]) hx hb dX4_commonDivisor_28 hl (k := 3) rfl (by rw [ex_4]; rfl) (by decide) rfl (fun ls hl => ?_)
        refine lv_goto (tgt := 7) hx hb dX4_commonDivisor_31 (by decide) ?_
        exact ih v3 x_3 x_4 σ H locs ls hf I (lv_sub hl [2, 1, 0] rfl)
set_option maxHeartbeats 4000000 in
set_option maxRecDepth 100000 in
theorem c_X4_commonDivisor (l : Launch) (E : En) (o : Int64) (a0 : Int32) (a1 : Int32) (σ : St) {res : Int32 × St} (hf : f_X4_commonDivisor a0 a1 σ = some res) : CI l yX4_commonDivisor wsX4_commonDivisor rm_X4_commonDivisor E [.int a0, .int a1] o σ res.1 res.2 := by
  intro sz
  refine Met.ofW (cc := cX4_commonDivisor) (maxL := 6) (ret := (some .int)) (by decide) rfl ?_
  intro p e s m args below meth c s₁ B hml hv
  obtain ⟨rfl, hv⟩ := hv
  obtain ⟨rfl, hK, I⟩ := hv.start
  have C : Cx p c cX4_commonDivisor 6 s m _ wsX4_commonDivisor RX4 E := ⟨⟨B.exec, B.bytes, hml, findClass_of_methodNamed B.named, atoms_spec (ws := wsX4_commonDivisor) B.pre⟩, hK⟩
  have hx := C.1.1
  have hb := C.1.2.1
  have hr := B.returns
  have hlocks := B.notSynchronized
  clear hv
  have hl := lv_entry ([.int a0, .int a1]) (n := 6) (Nat.le_of_ble_eq_true rfl)
  rw [lg_entry_eq]
  generalize (lg_sl ([.int a0, .int a1]) ++ List.replicate (6 - (lg_sl ([.int a0, .int a1])).length) Slot.unset).toArray = ls at hl ⊢
  have hl : lv_has ls 6 [(0, .int a0), (1, .int a1)] := hl
  generalize ([.int a0, .int a1] : List Value).toArray = args at C ⊢
  refine g_begin I (fun H locs I => ?_)
  rw [f_X4_commonDivisor] at hf
  refine lv_iload_n hx hb dX4_commonDivisor_0 rfl (lv_at hl 0 rfl) ?_
  refine lv_istore_n (lv' := [(2, .int a0), (0, .int a0), (1, .int a1)]) hx hb dX4_commonDivisor_1 rfl hl (by decide) rfl (fun ls hl => ?_)
  refine lv_iload_n hx hb dX4_commonDivisor_2 rfl (lv_at hl 2 rfl) ?_
  refine lv_istore_n (lv' := [(3, .int a1), (2, .int a0), (0, .int a0), (1, .int a1)]) hx hb dX4_commonDivisor_3 rfl hl (by decide) rfl (fun ls hl => ?_)
  refine lv_iconst (v := (0 : Int32)) hx hb dX4_commonDivisor_4 (by decide) ?_
  refine lv_istore (lv' := [(4, .int (0 : Int32)), (3, .int a1), (2, .int a0), (0, .int a0), (1, .int a1)]) hx hb dX4_commonDivisor_5 hl (by decide) rfl (fun ls hl => ?_)
  refine lp_X4_commonDivisor_7 C hr hlocks _ ?_ _ a0 a1 (0 : Int32) σ H locs ls hf I (lv_sub hl [2, 1, 0] rfl)
  · intro y_6 σ_7 H locs ls hf I hl
    refine lv_iload_n hx hb dX4_commonDivisor_34 rfl (lv_at hl 0 rfl) ?_
    refine lv_iconst (v := (1 : Int32)) hx hb dX4_commonDivisor_35 (by decide) ?_
    refine va_mmax hx hb (by rw [C.1.2.2.1]; exact hl.1.symm) C.1.2.2.2.1 (C.1.2.2.2.2 _ k_X4_commonDivisor_188) (C.1.2.2.2.2 _ k_X4_commonDivisor_static_max) (C.1.2.2.2.2 _ k_X4_commonDivisor_iniMath) (C.1.2.2.2.2 _ k_X4_commonDivisor_code_max) (Nat.le_of_ble_eq_true rfl) (Nat.le_of_ble_eq_true rfl) (Nat.le_of_ble_eq_true rfl) (Nat.le_of_ble_eq_true rfl) dX4_commonDivisor_36 ?_
    refine lv_topi (fun x_8 ex_8 => ?_)
    have hf := lt_at hf ex_8
    exact g_iret C I hr hlocks hf dX4_commonDivisor_39
abbrev rm_X4_lowestTerm : Room := { frames := 2, cells := 0, slots := 0, locals := 38 }
abbrev WW_X4_lowestTerm (p : Program) (l : Launch) (e : Env) (s : State) (m : MethodId) (args : Array Value) (below : List Frame) (meth : Method) (c : Code) (E : En) (o : Int64) (res : Int32 × St) (H : Heap) (locs : List Loc) (cells slots : Nat) (g : JFrame) : Prop := W p l e (headSpec wsX4_lowestTerm rm_X4_lowestTerm).room s m args below meth c H locs cells slots (MQ below (Qi E s.heap.size o res.1 res.2) args s 0 0 (AA E s.heap.size)) g
set_option maxHeartbeats 4000000 in
set_option maxRecDepth 100000 in
theorem c_X4_lowestTerm (l : Launch) (E : En) (o : Int64) (a0 : Int32) (a1 : Int32) (a2 : Int32) (σ : St) {res : Int32 × St} (hf : f_X4_lowestTerm a0 a1 a2 σ = some res) : CI l yX4_lowestTerm wsX4_lowestTerm rm_X4_lowestTerm E [.int a0, .int a1, .int a2] o σ res.1 res.2 := by
  intro sz
  refine Met.ofW (cc := cX4_lowestTerm) (maxL := 4) (ret := (some .int)) (by decide) rfl ?_
  intro p e s m args below meth c s₁ B hml hv
  obtain ⟨rfl, hv⟩ := hv
  obtain ⟨rfl, hK, I⟩ := hv.start
  have C : Cx p c cX4_lowestTerm 4 s m _ wsX4_lowestTerm RX4 E := ⟨⟨B.exec, B.bytes, hml, findClass_of_methodNamed B.named, atoms_spec (ws := wsX4_lowestTerm) B.pre⟩, hK⟩
  have hx := C.1.1
  have hb := C.1.2.1
  have hr := B.returns
  have hlocks := B.notSynchronized
  clear hv
  have hl := lv_entry ([.int a0, .int a1, .int a2]) (n := 4) (Nat.le_of_ble_eq_true rfl)
  rw [lg_entry_eq]
  generalize (lg_sl ([.int a0, .int a1, .int a2]) ++ List.replicate (4 - (lg_sl ([.int a0, .int a1, .int a2])).length) Slot.unset).toArray = ls at hl ⊢
  have hl : lv_has ls 4 [(0, .int a0), (1, .int a1), (2, .int a2)] := hl
  generalize ([.int a0, .int a1, .int a2] : List Value).toArray = args at C ⊢
  refine g_begin I (fun H locs I => ?_)
  rw [f_X4_lowestTerm] at hf
  refine lv_iload_n hx hb dX4_lowestTerm_0 rfl (lv_at hl 0 rfl) ?_
  refine lv_iload_n hx hb dX4_lowestTerm_1 rfl (lv_at hl 1 rfl) ?_
  obtain ⟨r_1, σ_2, hg_3, hf⟩ := bd_some hf
  refine g_csi (av := [.int a0, .int a1]) (rest := []) C I AA.new (c_X4_commonDivisor l E o a0 a1 σ hg_3) (cwS 2 C.1.2.2.2.2 gX4_lowestTerm_X4_commonDivisor rfl rfl rfl (by decide +kernel) ⟨Nat.le_of_ble_eq_true rfl, Nat.le_of_ble_eq_true rfl⟩) rfl hl.1 rfl (Nat.le_of_ble_eq_true rfl) ⟨Nat.le_of_ble_eq_true rfl, Nat.le_of_ble_eq_true rfl⟩ dX4_lowestTerm_2 (fun H locs I => ?_)
  refine lv_istore_n (lv' := [(3, .int r_1), (0, .int a0), (1, .int a1), (2, .int a2)]) hx hb dX4_lowestTerm_5 rfl hl (by decide) rfl (fun ls hl => ?_)
  refine lv_iload_n hx hb dX4_lowestTerm_6 rfl (lv_at hl 3 rfl) ?_
  refine lv_if_eq (tgt := 14) hx hb dX4_lowestTerm_7 (by decide) (fun c_4 => ?_) (fun c_4 => ?_)
  · have hf := if_t hf c_4
    refine lv_iload_n hx hb dX4_lowestTerm_14 rfl (lv_at hl 2 rfl) ?_
    refine lv_iload_n hx hb dX4_lowestTerm_15 rfl (lv_at hl 0 rfl) ?_
    obtain ⟨h_5, hf⟩ := ck_some hf
    refine lv_idiv hx hb dX4_lowestTerm_16 (nzb_ne h_5) ?_
    exact g_iret C I hr hlocks hf dX4_lowestTerm_17
  · have hf := if_f hf c_4
    refine lv_iload_n hx hb dX4_lowestTerm_10 rfl (lv_at hl 1 rfl) ?_
    refine lv_goto (tgt := 15) hx hb dX4_lowestTerm_11 (by decide) ?_
    refine lv_iload_n hx hb dX4_lowestTerm_15 rfl (lv_at hl 0 rfl) ?_
    obtain ⟨h_6, hf⟩ := ck_some hf
    refine lv_idiv hx hb dX4_lowestTerm_16 (nzb_ne h_6) ?_
    exact g_iret C I hr hlocks hf dX4_lowestTerm_17
abbrev rm_X4_waysOfHeads : Room := { frames := 0, cells := 0, slots := 0, locals := 0 }
abbrev WW_X4_waysOfHeads (p : Program) (l : Launch) (e : Env) (s : State) (m : MethodId) (args : Array Value) (below : List Frame) (meth : Method) (c : Code) (E : En) (o : Int64) (res : Int32 × St) (H : Heap) (locs : List Loc) (cells slots : Nat) (g : JFrame) : Prop := W p l e (headSpec wsX4_waysOfHeads rm_X4_waysOfHeads).room s m args below meth c H locs cells slots (MQ below (Qi E s.heap.size o res.1 res.2) args s 0 0 (AA E s.heap.size)) g
set_option maxHeartbeats 4000000 in
set_option maxRecDepth 100000 in
theorem lp_X4_waysOfHeads_7 {l : Launch} {p : Program} {e : Env} {s : State} {m : MethodId} {args : Array Value} {below : List Frame} {meth : Method} {c : Code} {E : En} {o : Int64} {res : Int32 × St} (C : Cx p c cX4_waysOfHeads 5 s m args wsX4_waysOfHeads RX4 E) (hr : meth.sig.returnType = (some .int)) (hlocks : meth.locks = false) (b0 : Int32) (b1 : Int32) (K41 : Int32 → St → Option (Int32 × St)) (hK41 : ∀ (u2 : Int32) (σ : St) (H : Heap) (locs : List Loc) (ls : Array Slot), K41 u2 σ = some res → Iv E (AA E s.heap.size) s.heap o σ H locs → lv_has ls 5 [(2, .int u2)] → WW_X4_waysOfHeads p l e s m args below meth c E o res H locs 0 0 (F0 m 41 ls [])) :
    ∀ (n : Nat) (v2 : Int32) (v3 : Int32) (v4 : Int32) (σ : St) (H : Heap) (locs : List Loc) (ls : Array Slot), f_X4_waysOfHeads_L7 b0 b1 K41 n v2 v3 v4 σ = some res → Iv E (AA E s.heap.size) s.heap o σ H locs → lv_has ls 5 [(0, .int b0), (1, .int b1), (2, .int v2), (3, .int v3), (4, .int v4)] → WW_X4_waysOfHeads p l e s m args below meth c E o res H locs 0 0 (F0 m 7 ls []) := by
  have hx := C.1.1
  have hb := C.1.2.1
  intro n
  induction n with
  | zero => intro v2 v3 v4 σ H locs ls hf _ _; cases (show (none : Option (Int32 × St)) = some res from hf)
  | succ n ih =>
    intro v2 v3 v4 σ H locs ls hf I hl
    rw [f_X4_waysOfHeads_L7] at hf
    refine lv_iload hx hb dX4_waysOfHeads_7 (lv_at hl 4 rfl) ?_
    refine lv_iload_n hx hb dX4_waysOfHeads_9 rfl (lv_at hl 0 rfl) ?_
    refine lv_icmp_gt (tgt := 41) hx hb dX4_waysOfHeads_10 (by decide) (fun c_1 => ?_) (fun c_1 => ?_)
    · have hf := if_t hf c_1
      exact hK41 v2 σ H locs ls hf I (lv_sub hl [2] rfl)
    · have hf := if_f hf c_1
      refine lv_iload hx hb dX4_waysOfHeads_13 (lv_at hl 4 rfl) ?_
      refine lv_iload_n hx hb dX4_waysOfHeads_15 rfl (lv_at hl 1 rfl) ?_
      obtain ⟨J_3, eJ_3, hf⟩ := lt_split hf
      have hJ_3 : ∀ (y_5 : Int32) (σ_6 : St) (H : Heap) (locs : List Loc) (ls : Array Slot), J_3 y_5 σ_6 = some res → Iv E (AA E s.heap.size) s.heap o σ_6 H locs → lv_has ls 5 [(0, .int b0), (1, .int b1), (2, .int y_5), (3, .int v3), (4, .int v4)] → WW_X4_waysOfHeads p l e s m args below meth c E o res H locs 0 0 (F0 m 23 ls []) := by
        intro y_5 σ_6 H locs ls hf I hl
        rw [eJ_3] at hf
        refine lv_iload_n hx hb dX4_waysOfHeads_23 rfl (lv_at hl 3 rfl) ?_
        refine lv_iload_n hx hb dX4_waysOfHeads_24 rfl (lv_at hl 0 rfl) ?_
        refine lv_iload hx hb dX4_waysOfHeads_25 (lv_at hl 4 rfl) ?_
        refine lv_isub hx hb dX4_waysOfHeads_27 ?_
        refine lv_imul hx hb dX4_waysOfHeads_28 ?_
        refine lv_iload hx hb dX4_waysOfHeads_29 (lv_at hl 4 rfl) ?_
        refine lv_iconst (v := (1 : Int32)) hx hb dX4_waysOfHeads_31 (by decide) ?_
        refine lv_iadd hx hb dX4_waysOfHeads_32 ?_
        obtain ⟨h_9, hf⟩ := ck_some hf
        refine lv_idiv hx hb dX4_waysOfHeads_33 (nzb_ne h_9) ?_
        refine lv_topi (fun x_7 ex_7 => ?_)
        have hf := lt_at hf ex_7
        refine lv_istore_n (lv' := [(3, .int x_7), (0, .int b0), (1, .int b1), (2, .int y_5), (4, .int v4)]) hx hb dX4_waysOfHeads_34 rfl hl (by decide) rfl (fun ls hl => ?_)
        obtain ⟨x_8, ex_8⟩ : ∃ y : Int32, y = (v4 + (1 : Int32)) := ⟨_, rfl⟩
        have hf := lt_at hf ex_8
        refine lv_iinc (v := x_8) (lv' := [(4, .int x_8), (3, .int x_7), (0, .int b0), (1, .int b1), (2, .int y_5)]) hx hb dX4_waysOfHeads_35 hl (k := 4) rfl (by rw [ex_8]; rfl) (by decide) rfl (fun ls hl => ?_)
        refine lv_goto (tgt := 7) hx hb dX4_waysOfHeads_38 (by decide) ?_
        exact ih y_5 x_7 x_8 σ_6 H locs ls hf I (lv_sub hl [2, 3, 4, 1, 0] rfl)
      refine lv_icmp_lt (tgt := 23) hx hb dX4_waysOfHeads_16 (by decide) (fun c_2 => ?_) (fun c_2 => ?_)
      · have hf := if_t hf c_2
        exact hJ_3 _ σ H locs ls hf I (lv_sub hl [0, 1, 2, 3, 4] rfl)
      · have hf := if_f hf c_2
        refine lv_iload_n hx hb dX4_waysOfHeads_19 rfl (lv_at hl 2 rfl) ?_
        refine lv_iload_n hx hb dX4_waysOfHeads_20 rfl (lv_at hl 3 rfl) ?_
        refine lv_iadd hx hb dX4_waysOfHeads_21 ?_
        refine lv_topi (fun x_4 ex_4 => ?_)
        have hf := lt_at hf ex_4
        refine lv_istore_n (lv' := [(2, .int x_4), (0, .int b0), (1, .int b1), (3, .int v3), (4, .int v4)]) hx hb dX4_waysOfHeads_22 rfl hl (by decide) rfl (fun ls hl => ?_)
        exact hJ_3 _ σ H locs ls hf I (lv_sub hl [1, 2, 0, 3, 4] rfl)
set_option maxHeartbeats 4000000 in
set_option maxRecDepth 100000 in
theorem c_X4_waysOfHeads (l : Launch) (E : En) (o : Int64) (a0 : Int32) (a1 : Int32) (σ : St) {res : Int32 × St} (hf : f_X4_waysOfHeads a0 a1 σ = some res) : CI l yX4_waysOfHeads wsX4_waysOfHeads rm_X4_waysOfHeads E [.int a0, .int a1] o σ res.1 res.2 := by
  intro sz
  refine Met.ofW (cc := cX4_waysOfHeads) (maxL := 5) (ret := (some .int)) (by decide) rfl ?_
  intro p e s m args below meth c s₁ B hml hv
  obtain ⟨rfl, hv⟩ := hv
  obtain ⟨rfl, hK, I⟩ := hv.start
  have C : Cx p c cX4_waysOfHeads 5 s m _ wsX4_waysOfHeads RX4 E := ⟨⟨B.exec, B.bytes, hml, findClass_of_methodNamed B.named, atoms_spec (ws := wsX4_waysOfHeads) B.pre⟩, hK⟩
  have hx := C.1.1
  have hb := C.1.2.1
  have hr := B.returns
  have hlocks := B.notSynchronized
  clear hv
  have hl := lv_entry ([.int a0, .int a1]) (n := 5) (Nat.le_of_ble_eq_true rfl)
  rw [lg_entry_eq]
  generalize (lg_sl ([.int a0, .int a1]) ++ List.replicate (5 - (lg_sl ([.int a0, .int a1])).length) Slot.unset).toArray = ls at hl ⊢
  have hl : lv_has ls 5 [(0, .int a0), (1, .int a1)] := hl
  generalize ([.int a0, .int a1] : List Value).toArray = args at C ⊢
  refine g_begin I (fun H locs I => ?_)
  rw [f_X4_waysOfHeads] at hf
  refine lv_iconst (v := (0 : Int32)) hx hb dX4_waysOfHeads_0 (by decide) ?_
  refine lv_istore_n (lv' := [(2, .int (0 : Int32)), (0, .int a0), (1, .int a1)]) hx hb dX4_waysOfHeads_1 rfl hl (by decide) rfl (fun ls hl => ?_)
  refine lv_iconst (v := (1 : Int32)) hx hb dX4_waysOfHeads_2 (by decide) ?_
  refine lv_istore_n (lv' := [(3, .int (1 : Int32)), (2, .int (0 : Int32)), (0, .int a0), (1, .int a1)]) hx hb dX4_waysOfHeads_3 rfl hl (by decide) rfl (fun ls hl => ?_)
  refine lv_iconst (v := (0 : Int32)) hx hb dX4_waysOfHeads_4 (by decide) ?_
  refine lv_istore (lv' := [(4, .int (0 : Int32)), (3, .int (1 : Int32)), (2, .int (0 : Int32)), (0, .int a0), (1, .int a1)]) hx hb dX4_waysOfHeads_5 hl (by decide) rfl (fun ls hl => ?_)
  refine lp_X4_waysOfHeads_7 C hr hlocks a0 a1 _ ?_ _ (0 : Int32) (1 : Int32) (0 : Int32) σ H locs ls hf I (lv_sub hl [3, 4, 2, 1, 0] rfl)
  · intro y_10 σ_11 H locs ls hf I hl
    refine lv_iload_n hx hb dX4_waysOfHeads_41 rfl (lv_at hl 0 rfl) ?_
    exact g_iret C I hr hlocks hf dX4_waysOfHeads_42
