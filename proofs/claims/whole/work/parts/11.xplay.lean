/-! contracts, by wip/gen/walk.py -/
abbrev rm_X2_forget : Room := { frames := 0, cells := 0, slots := 0, locals := 0 }
abbrev WW_X2_forget (p : Program) (l : Launch) (e : Env) (s : State) (m : MethodId) (args : Array Value) (below : List Frame) (meth : Method) (c : Code) (E : En) (o : Int64) (res : Int32 × St) (H : Heap) (locs : List Loc) (cells slots : Nat) (g : JFrame) : Prop := W p l e (headSpec wsX2_forget rm_X2_forget).room s m args below meth c H locs cells slots (MQ below (Qv E s.heap.size o res.2) args s 0 0 (AA E s.heap.size)) g
theorem k_X2_forget_28 : Cond.fieldLink RX2 28 "DaySimulate$Play" "workOf" "[I" ∈ wsX2_forget := by decide +kernel
theorem k_X2_forget_50 : Cond.fieldLink RX2 50 "DaySimulate$Play" "missedMinutes" "I" ∈ wsX2_forget := by decide +kernel
theorem k_X2_forget_53 : Cond.fieldLink RX2 53 "DaySimulate$Day" "calls" "I" ∈ wsX2_forget := by decide +kernel
theorem k_X2_forget_12 : Cond.fieldLink RX2 12 "DaySimulate$Play" "day" "LDaySimulate$Day;" ∈ wsX2_forget := by decide +kernel
theorem in_X2_forget_X0 : ∀ w ∈ wsX00, w ∈ wsX2_forget := by decide +kernel
theorem in_X2_forget_X2 : ∀ w ∈ wsX20, w ∈ wsX2_forget := by decide +kernel
set_option maxHeartbeats 4000000 in
set_option maxRecDepth 100000 in
theorem lp_X2_forget_15 {l : Launch} {p : Program} {e : Env} {s : State} {m : MethodId} {args : Array Value} {below : List Frame} {meth : Method} {c : Code} {E : En} {o : Int64} {res : Int32 × St} (C : Cx p c cX2_forget 2 s m args wsX2_forget RX2 E) (hr : meth.sig.returnType = none) (hlocks : meth.locks = false)  (K34 : St → Option (Int32 × St)) (hK34 : ∀  (σ : St) (H : Heap) (locs : List Loc) (ls : Array Slot), K34 σ = some res → Iv E (AA E s.heap.size) s.heap o σ H locs → lv_has ls 2 [] → WW_X2_forget p l e s m args below meth c E o res H locs 0 0 (F0 m 34 ls [])) :
    ∀ (n : Nat) (v1 : Int32) (σ : St) (H : Heap) (locs : List Loc) (ls : Array Slot), f_X2_forget_L15 K34 n v1 σ = some res → Iv E (AA E s.heap.size) s.heap o σ H locs → lv_has ls 2 [(0, .ref (ad E 13)), (1, .int v1)] → WW_X2_forget p l e s m args below meth c E o res H locs 0 0 (F0 m 15 ls []) := by
  have hx := C.1.1
  have hb := C.1.2.1
  intro n
  induction n with
  | zero => intro v1 σ H locs ls hf _ _; cases (show (none : Option (Int32 × St)) = some res from hf)
  | succ n ih =>
    intro v1 σ H locs ls hf I hl
    rw [f_X2_forget_L15] at hf
    refine lv_iload_n hx hb dX2_forget_15 rfl (lv_at hl 1 rfl) ?_
    refine lv_bipush (v := (12 : Int32)) hx hb dX2_forget_16 (by decide) ?_
    refine lv_icmp_ge (tgt := 34) hx hb dX2_forget_18 (by decide) (fun c_3 => ?_) (fun c_3 => ?_)
    · have hf := if_t hf c_3
      exact hK34  σ H locs ls hf I (lv_sub hl [] rfl)
    · have hf := if_f hf c_3
      refine lv_aload_n hx hb dX2_forget_21 rfl (lv_at hl 0 rfl) ?_
      refine g_get (k := 13) (v := .ref (ad E 17)) C I (by decide) (gk_13 E o _) rfl in_X2_forget_X2 4 (by decide) (C.1.2.2.2.2 _ k_X2_forget_28) rfl dX2_forget_22 ?_
      refine lv_iload_n hx hb dX2_forget_25 rfl (lv_at hl 1 rfl) ?_
      refine lv_iconst (v := (0 : Int32)) hx hb dX2_forget_26 (by decide) ?_
      obtain ⟨h_4, hf⟩ := ck_some hf
      refine g_iast (k := 17) C I (by decide) (gk_17 E o) (ixb_in h_4) dX2_forget_27 (fun H locs σ_5 eσ_5 I => ?_)
      have hf := lt_at hf eσ_5
      obtain ⟨x_6, ex_6⟩ : ∃ y : Int32, y = (v1 + (1 : Int32)) := ⟨_, rfl⟩
      have hf := lt_at hf ex_6
      refine lv_iinc (v := x_6) (lv' := [(1, .int x_6), (0, .ref (ad E 13))]) hx hb dX2_forget_28 hl (k := 1) rfl (by rw [ex_6]; rfl) (by decide) rfl (fun ls hl => ?_)
      refine lv_goto (tgt := 15) hx hb dX2_forget_31 (by decide) ?_
      exact ih x_6 σ_5 H locs ls hf I (lv_sub hl [1, 0] rfl)
set_option maxHeartbeats 4000000 in
set_option maxRecDepth 100000 in
theorem c_X2_forget (l : Launch) (E : En) (o : Int64)  (σ : St) {res : Int32 × St} (hf : f_X2_forget σ = some res) : CV l yX2_forget wsX2_forget rm_X2_forget E [.ref (ad E 13)] o σ res.2 := by
  intro sz
  refine Met.ofW (cc := cX2_forget) (maxL := 2) (ret := none) (by decide) rfl ?_
  intro p e s m args below meth c s₁ B hml hv
  obtain ⟨rfl, hv⟩ := hv
  obtain ⟨rfl, hK, I⟩ := hv.start
  have C : Cx p c cX2_forget 2 s m _ wsX2_forget RX2 E := ⟨⟨B.exec, B.bytes, hml, findClass_of_methodNamed B.named, atoms_spec (ws := wsX2_forget) B.pre⟩, hK⟩
  have hx := C.1.1
  have hb := C.1.2.1
  have hr := B.returns
  have hlocks := B.notSynchronized
  clear hv
  have hl := lv_entry ([.ref (ad E 13)]) (n := 2) (Nat.le_of_ble_eq_true rfl)
  rw [lg_entry_eq]
  generalize (lg_sl ([.ref (ad E 13)]) ++ List.replicate (2 - (lg_sl ([.ref (ad E 13)])).length) Slot.unset).toArray = ls at hl ⊢
  have hl : lv_has ls 2 [(0, .ref (ad E 13))] := hl
  generalize ([.ref (ad E 13)] : List Value).toArray = args at C ⊢
  refine g_begin I (fun H locs I => ?_)
  rw [f_X2_forget] at hf
  refine lv_aload_n hx hb dX2_forget_0 rfl (lv_at hl 0 rfl) ?_
  refine g_get (k := 13) (v := .ref (ad E 34)) C I (by decide) (gk_13 E o _) rfl in_X2_forget_X2 0 (by decide) (C.1.2.2.2.2 _ k_X2_forget_12) rfl dX2_forget_1 ?_
  refine lv_iconst (v := (0 : Int32)) hx hb dX2_forget_4 (by decide) ?_
  refine g_put (k := 34) (v := (0 : Int32)) C I (by decide) (gk_34 E o) rfl in_X2_forget_X0 tyX0 tyX0_ok nmX0 4 (by decide) (C.1.2.2.2.2 _ k_X2_forget_53) rfl (by decide +kernel) (Nat.le_of_ble_eq_true rfl) rfl dX2_forget_5 (fun H locs σ_1 eσ_1 I => ?_)
  have hf := lt_at hf eσ_1
  refine lv_aload_n hx hb dX2_forget_8 rfl (lv_at hl 0 rfl) ?_
  refine lv_iconst (v := (0 : Int32)) hx hb dX2_forget_9 (by decide) ?_
  refine g_put (k := 13) (v := (0 : Int32)) C I (by decide) (gk_13 E o) rfl in_X2_forget_X2 tyX2 tyX2_ok nmX2 10 (by decide) (C.1.2.2.2.2 _ k_X2_forget_50) rfl (by decide +kernel) (Nat.le_of_ble_eq_true rfl) rfl dX2_forget_10 (fun H locs σ_2 eσ_2 I => ?_)
  have hf := lt_at hf eσ_2
  refine lv_iconst (v := (0 : Int32)) hx hb dX2_forget_13 (by decide) ?_
  refine lv_istore_n (lv' := [(1, .int (0 : Int32)), (0, .ref (ad E 13))]) hx hb dX2_forget_14 rfl hl (by decide) rfl (fun ls hl => ?_)
  refine lp_X2_forget_15 C hr hlocks _ ?_ _ (0 : Int32) σ_2 H locs ls hf I (lv_sub hl [1, 0] rfl)
  · intro  σ_7 H locs ls hf I hl
    exact g_vret C I hr hlocks hf dX2_forget_34
abbrev rm_X2_post : Room := { frames := 2, cells := 0, slots := 0, locals := 38 }
abbrev WW_X2_post (p : Program) (l : Launch) (e : Env) (s : State) (m : MethodId) (args : Array Value) (below : List Frame) (meth : Method) (c : Code) (E : En) (o : Int64) (res : Int32 × St) (H : Heap) (locs : List Loc) (cells slots : Nat) (g : JFrame) : Prop := W p l e (headSpec wsX2_post rm_X2_post).room s m args below meth c H locs cells slots (MQ below (Qv E s.heap.size o res.2) args s 0 0 (AA E s.heap.size)) g
theorem k_X2_post_37 : Cond.fieldLink RX2 37 "DaySimulate$Play" "wayTo" "[[I" ∈ wsX2_post := by decide +kernel
theorem k_X2_post_66 : Cond.fieldLink RX2 66 "DaySimulate$Town" "areas" "I" ∈ wsX2_post := by decide +kernel
theorem k_X2_post_31 : Cond.fieldLink RX2 31 "DaySimulate$Play" "leftOut" "[Z" ∈ wsX2_post := by decide +kernel
theorem in_X2_post_X2 : ∀ w ∈ wsX20, w ∈ wsX2_post := by decide +kernel
theorem in_X2_post_X3 : ∀ w ∈ wsX30, w ∈ wsX2_post := by decide +kernel
set_option maxHeartbeats 4000000 in
set_option maxRecDepth 100000 in
theorem lp_X2_post_19 {l : Launch} {p : Program} {e : Env} {s : State} {m : MethodId} {args : Array Value} {below : List Frame} {meth : Method} {c : Code} {E : En} {o : Int64} {res : Int32 × St} (C : Cx p c cX2_post 6 s m args wsX2_post RX2 E) (hr : meth.sig.returnType = none) (hlocks : meth.locks = false) (b2 : Int32) (b3 : Int32) (b4 : Int32) (K57 : St → Option (Int32 × St)) (hK57 : ∀  (σ : St) (H : Heap) (locs : List Loc) (ls : Array Slot), K57 σ = some res → Iv E (AA E s.heap.size) s.heap o σ H locs → lv_has ls 6 [] → WW_X2_post p l e s m args below meth c E o res H locs 0 0 (F0 m 57 ls [])) :
    ∀ (n : Nat) (v5 : Int32) (σ : St) (H : Heap) (locs : List Loc) (ls : Array Slot), f_X2_post_L19 b2 b3 b4 K57 n v5 σ = some res → Iv E (AA E s.heap.size) s.heap o σ H locs → lv_has ls 6 [(0, .ref (ad E 13)), (1, .ref (ad E 1)), (2, .int b2), (3, .int b3), (4, .int b4), (5, .int v5)] → WW_X2_post p l e s m args below meth c E o res H locs 0 0 (F0 m 19 ls []) := by
  have hx := C.1.1
  have hb := C.1.2.1
  intro n
  induction n with
  | zero => intro v5 σ H locs ls hf _ _; cases (show (none : Option (Int32 × St)) = some res from hf)
  | succ n ih =>
    intro v5 σ H locs ls hf I hl
    rw [f_X2_post_L19] at hf
    refine lv_iload hx hb dX2_post_19 (lv_at hl 5 rfl) ?_
    refine lv_aload_n hx hb dX2_post_21 rfl (lv_at hl 1 rfl) ?_
    refine g_get (k := 1) (v := .int (σ 1 6)) C I (by decide) (gk_1 E o _) rfl in_X2_post_X3 6 (by decide) (C.1.2.2.2.2 _ k_X2_post_66) rfl dX2_post_22 ?_
    refine lv_icmp_ge (tgt := 57) hx hb dX2_post_25 (by decide) (fun c_4 => ?_) (fun c_4 => ?_)
    · have hf := if_t hf c_4
      exact hK57  σ H locs ls hf I (lv_sub hl [] rfl)
    · have hf := if_f hf c_4
      refine lv_iload_n hx hb dX2_post_28 rfl (lv_at hl 3 rfl) ?_
      refine lv_iconst (v := (-1 : Int32)) hx hb dX2_post_29 (by decide) ?_
      refine lv_icmp_eq (tgt := 57) hx hb dX2_post_30 (by decide) (fun c_5 => ?_) (fun c_5 => ?_)
      · have hf := if_t hf c_5
        exact hK57  σ H locs ls hf I (lv_sub hl [] rfl)
      · have hf := if_f hf c_5
        refine lv_aload_n hx hb dX2_post_33 rfl (lv_at hl 0 rfl) ?_
        refine g_get (k := 13) (v := .ref (ad E 19)) C I (by decide) (gk_13 E o _) rfl in_X2_post_X2 6 (by decide) (C.1.2.2.2.2 _ k_X2_post_37) rfl dX2_post_34 ?_
        refine lv_iload_n hx hb dX2_post_37 rfl (lv_at hl 2 rfl) ?_
        obtain ⟨h_6, hf⟩ := ck_some hf
        refine g_aald (k := 19) (b := 20) C I (by decide) (gk_19 E o) (ixb_in h_6) (ixb_lt h_6) dX2_post_38 ?_
        refine lv_iload hx hb dX2_post_39 (lv_at hl 5 rfl) ?_
        refine lv_aload_n hx hb dX2_post_41 rfl (lv_at hl 1 rfl) ?_
        refine lv_iload_n hx hb dX2_post_42 rfl (lv_at hl 3 rfl) ?_
        refine lv_iload hx hb dX2_post_43 (lv_at hl 5 rfl) ?_
        refine lv_iload hx hb dX2_post_45 (lv_at hl 4 rfl) ?_
        obtain ⟨r_7, σ_8, hg_9, hf⟩ := bd_some hf
        refine g_cvi (av := [.int b3, .int v5, .int b4]) (rest := [.int v5, .ref (ad E (20 + (b2).toNatClampNeg))]) (k := 1) C I AA.new (c_X3_wayMinutes l E o b3 v5 b4 σ hg_9) (cwV 3 C.1.2.2.2.2 gX2_post_X3_wayMinutes rfl rfl rfl (by decide +kernel) ⟨Nat.le_of_ble_eq_true rfl, Nat.le_of_ble_eq_true rfl⟩) (by decide) (gk_1 E o _) rfl rfl rfl hl.1 rfl (Nat.le_of_ble_eq_true rfl) ⟨Nat.le_of_ble_eq_true rfl, Nat.le_of_ble_eq_true rfl⟩ dX2_post_47 (fun H locs I => ?_)
        obtain ⟨h_10, hf⟩ := ck_some hf
        refine g_iast (k := (20 + (b2).toNatClampNeg)) C I (gkn_20 (ixb_lt h_6)) (gkd_20 E o (ixb_lt h_6)) (ixb_in h_10) dX2_post_50 (fun H locs σ_11 eσ_11 I => ?_)
        have hf := lt_at hf eσ_11
        obtain ⟨x_12, ex_12⟩ : ∃ y : Int32, y = (v5 + (1 : Int32)) := ⟨_, rfl⟩
        have hf := lt_at hf ex_12
        refine lv_iinc (v := x_12) (lv' := [(5, .int x_12), (0, .ref (ad E 13)), (1, .ref (ad E 1)), (2, .int b2), (3, .int b3), (4, .int b4)]) hx hb dX2_post_51 hl (k := 5) rfl (by rw [ex_12]; rfl) (by decide) rfl (fun ls hl => ?_)
        refine lv_goto (tgt := 19) hx hb dX2_post_54 (by decide) ?_
        exact ih x_12 σ_11 H locs ls hf I (lv_sub hl [1, 2, 3, 4, 5, 0] rfl)
set_option maxHeartbeats 4000000 in
set_option maxRecDepth 100000 in
theorem c_X2_post (l : Launch) (E : En) (o : Int64) (a2 : Int32) (a3 : Int32) (a4 : Int32) (σ : St) {res : Int32 × St} (hf : f_X2_post a2 a3 a4 σ = some res) : CV l yX2_post wsX2_post rm_X2_post E [.ref (ad E 13), .ref (ad E 1), .int a2, .int a3, .int a4] o σ res.2 := by
  intro sz
  refine Met.ofW (cc := cX2_post) (maxL := 6) (ret := none) (by decide) rfl ?_
  intro p e s m args below meth c s₁ B hml hv
  obtain ⟨rfl, hv⟩ := hv
  obtain ⟨rfl, hK, I⟩ := hv.start
  have C : Cx p c cX2_post 6 s m _ wsX2_post RX2 E := ⟨⟨B.exec, B.bytes, hml, findClass_of_methodNamed B.named, atoms_spec (ws := wsX2_post) B.pre⟩, hK⟩
  have hx := C.1.1
  have hb := C.1.2.1
  have hr := B.returns
  have hlocks := B.notSynchronized
  clear hv
  have hl := lv_entry ([.ref (ad E 13), .ref (ad E 1), .int a2, .int a3, .int a4]) (n := 6) (Nat.le_of_ble_eq_true rfl)
  rw [lg_entry_eq]
  generalize (lg_sl ([.ref (ad E 13), .ref (ad E 1), .int a2, .int a3, .int a4]) ++ List.replicate (6 - (lg_sl ([.ref (ad E 13), .ref (ad E 1), .int a2, .int a3, .int a4])).length) Slot.unset).toArray = ls at hl ⊢
  have hl : lv_has ls 6 [(0, .ref (ad E 13)), (1, .ref (ad E 1)), (2, .int a2), (3, .int a3), (4, .int a4)] := hl
  generalize ([.ref (ad E 13), .ref (ad E 1), .int a2, .int a3, .int a4] : List Value).toArray = args at C ⊢
  refine g_begin I (fun H locs I => ?_)
  rw [f_X2_post] at hf
  refine lv_aload_n hx hb dX2_post_0 rfl (lv_at hl 0 rfl) ?_
  refine g_get (k := 13) (v := .ref (ad E 18)) C I (by decide) (gk_13 E o _) rfl in_X2_post_X2 5 (by decide) (C.1.2.2.2.2 _ k_X2_post_31) rfl dX2_post_1 ?_
  refine lv_iload_n hx hb dX2_post_4 rfl (lv_at hl 2 rfl) ?_
  refine lv_iload_n hx hb dX2_post_5 rfl (lv_at hl 3 rfl) ?_
  refine lv_iconst (v := (-1 : Int32)) hx hb dX2_post_6 (by decide) ?_
  refine lv_icmp_ne (tgt := 14) hx hb dX2_post_7 (by decide) (fun c_1 => ?_) (fun c_1 => ?_)
  · have hf := if_f hf c_1
    refine lv_iconst (v := (0 : Int32)) hx hb dX2_post_14 (by decide) ?_
    obtain ⟨h_2, hf⟩ := ck_some hf
    refine g_zast (k := 18) C I (by decide) (gk_18 E o) (ixb_in h_2) dX2_post_15 (fun H locs σ_3 eσ_3 I => ?_)
    have hf := lt_at hf eσ_3
    refine lv_iconst (v := (0 : Int32)) hx hb dX2_post_16 (by decide) ?_
    refine lv_istore (lv' := [(5, .int (0 : Int32)), (0, .ref (ad E 13)), (1, .ref (ad E 1)), (2, .int a2), (3, .int a3), (4, .int a4)]) hx hb dX2_post_17 hl (by decide) rfl (fun ls hl => ?_)
    refine lp_X2_post_19 C hr hlocks a2 a3 a4 _ ?_ _ (0 : Int32) σ_3 H locs ls hf I (lv_sub hl [1, 2, 3, 4, 5, 0] rfl)
    · intro  σ_13 H locs ls hf I hl
      exact g_vret C I hr hlocks hf dX2_post_57
  · have hf := if_t hf c_1
    refine lv_iconst (v := (1 : Int32)) hx hb dX2_post_10 (by decide) ?_
    refine lv_goto (tgt := 15) hx hb dX2_post_11 (by decide) ?_
    obtain ⟨h_14, hf⟩ := ck_some hf
    refine g_zast (k := 18) C I (by decide) (gk_18 E o) (ixb_in h_14) dX2_post_15 (fun H locs σ_15 eσ_15 I => ?_)
    have hf := lt_at hf eσ_15
    refine lv_iconst (v := (0 : Int32)) hx hb dX2_post_16 (by decide) ?_
    refine lv_istore (lv' := [(5, .int (0 : Int32)), (0, .ref (ad E 13)), (1, .ref (ad E 1)), (2, .int a2), (3, .int a3), (4, .int a4)]) hx hb dX2_post_17 hl (by decide) rfl (fun ls hl => ?_)
    refine lp_X2_post_19 C hr hlocks a2 a3 a4 _ ?_ _ (0 : Int32) σ_15 H locs ls hf I (lv_sub hl [1, 2, 3, 4, 5, 0] rfl)
    · intro  σ_16 H locs ls hf I hl
      exact g_vret C I hr hlocks hf dX2_post_57
abbrev rm_X2_begin : Room := { frames := 3, cells := 0, slots := 0, locals := 63 }
abbrev WW_X2_begin (p : Program) (l : Launch) (e : Env) (s : State) (m : MethodId) (args : Array Value) (below : List Frame) (meth : Method) (c : Code) (E : En) (o : Int64) (res : Int32 × St) (H : Heap) (locs : List Loc) (cells slots : Nat) (g : JFrame) : Prop := W p l e (headSpec wsX2_begin rm_X2_begin).room s m args below meth c H locs cells slots (MQ below (Qv E s.heap.size o res.2) args s 0 0 (AA E s.heap.size)) g
theorem k_X2_begin_28 : Cond.fieldLink RX2 28 "DaySimulate$Play" "workOf" "[I" ∈ wsX2_begin := by decide +kernel
theorem k_X2_begin_40 : Cond.fieldLink RX2 40 "DaySimulate$Play" "backAt" "[I" ∈ wsX2_begin := by decide +kernel
theorem k_X2_begin_59 : Cond.fieldLink RX2 59 "DaySimulate$Fleet" "stationOf" "[[I" ∈ wsX2_begin := by decide +kernel
theorem k_X2_begin_46 : Cond.fieldLink RX2 46 "DaySimulate$Play" "units" "I" ∈ wsX2_begin := by decide +kernel
theorem k_X2_begin_18 : Cond.fieldLink RX2 18 "DaySimulate$Play" "unitOf" "[I" ∈ wsX2_begin := by decide +kernel
theorem k_X2_begin_50 : Cond.fieldLink RX2 50 "DaySimulate$Play" "missedMinutes" "I" ∈ wsX2_begin := by decide +kernel
theorem k_X2_begin_56 : Cond.fieldLink RX2 56 "DaySimulate$Fleet" "units" "I" ∈ wsX2_begin := by decide +kernel
theorem in_X2_begin_X1 : ∀ w ∈ wsX10, w ∈ wsX2_begin := by decide +kernel
theorem in_X2_begin_X2 : ∀ w ∈ wsX20, w ∈ wsX2_begin := by decide +kernel
set_option maxHeartbeats 4000000 in
set_option maxRecDepth 100000 in
theorem lp_X2_begin_16 {l : Launch} {p : Program} {e : Env} {s : State} {m : MethodId} {args : Array Value} {below : List Frame} {meth : Method} {c : Code} {E : En} {o : Int64} {res : Int32 × St} (C : Cx p c cX2_begin 6 s m args wsX2_begin RX2 E) (hr : meth.sig.returnType = none) (hlocks : meth.locks = false) (b3 : Int32) (b4 : Int32) (K45 : St → Option (Int32 × St)) (hK45 : ∀  (σ : St) (H : Heap) (locs : List Loc) (ls : Array Slot), K45 σ = some res → Iv E (AA E s.heap.size) s.heap o σ H locs → lv_has ls 6 [(0, .ref (ad E 13)), (1, .ref (ad E 1)), (2, .ref (ad E 7)), (3, .int b3), (4, .int b4)] → WW_X2_begin p l e s m args below meth c E o res H locs 0 0 (F0 m 45 ls [])) :
    ∀ (n : Nat) (v5 : Int32) (σ : St) (H : Heap) (locs : List Loc) (ls : Array Slot), f_X2_begin_L16 b3 b4 K45 n v5 σ = some res → Iv E (AA E s.heap.size) s.heap o σ H locs → lv_has ls 6 [(0, .ref (ad E 13)), (1, .ref (ad E 1)), (2, .ref (ad E 7)), (3, .int b3), (4, .int b4), (5, .int v5)] → WW_X2_begin p l e s m args below meth c E o res H locs 0 0 (F0 m 16 ls []) := by
  have hx := C.1.1
  have hb := C.1.2.1
  intro n
  induction n with
  | zero => intro v5 σ H locs ls hf _ _; cases (show (none : Option (Int32 × St)) = some res from hf)
  | succ n ih =>
    intro v5 σ H locs ls hf I hl
    rw [f_X2_begin_L16] at hf
    refine lv_iload hx hb dX2_begin_16 (lv_at hl 5 rfl) ?_
    refine lv_bipush (v := (12 : Int32)) hx hb dX2_begin_18 (by decide) ?_
    refine lv_icmp_ge (tgt := 45) hx hb dX2_begin_20 (by decide) (fun c_3 => ?_) (fun c_3 => ?_)
    · have hf := if_t hf c_3
      exact hK45  σ H locs ls hf I (lv_sub hl [0, 1, 2, 3, 4] rfl)
    · have hf := if_f hf c_3
      refine lv_aload_n hx hb dX2_begin_23 rfl (lv_at hl 0 rfl) ?_
      refine g_get (k := 13) (v := .ref (ad E 32)) C I (by decide) (gk_13 E o _) rfl in_X2_begin_X2 7 (by decide) (C.1.2.2.2.2 _ k_X2_begin_40) rfl dX2_begin_24 ?_
      refine lv_iload hx hb dX2_begin_27 (lv_at hl 5 rfl) ?_
      refine lv_iconst (v := (0 : Int32)) hx hb dX2_begin_29 (by decide) ?_
      obtain ⟨h_4, hf⟩ := ck_some hf
      refine g_iast (k := 32) C I (by decide) (gk_32 E o) (ixb_in h_4) dX2_begin_30 (fun H locs σ_5 eσ_5 I => ?_)
      have hf := lt_at hf eσ_5
      refine lv_aload_n hx hb dX2_begin_31 rfl (lv_at hl 0 rfl) ?_
      refine g_get (k := 13) (v := .ref (ad E 17)) C I (by decide) (gk_13 E o _) rfl in_X2_begin_X2 4 (by decide) (C.1.2.2.2.2 _ k_X2_begin_28) rfl dX2_begin_32 ?_
      refine lv_iload hx hb dX2_begin_35 (lv_at hl 5 rfl) ?_
      refine lv_iconst (v := (0 : Int32)) hx hb dX2_begin_37 (by decide) ?_
      obtain ⟨h_6, hf⟩ := ck_some hf
      refine g_iast (k := 17) C I (by decide) (gk_17 E o) (ixb_in h_6) dX2_begin_38 (fun H locs σ_7 eσ_7 I => ?_)
      have hf := lt_at hf eσ_7
      obtain ⟨x_8, ex_8⟩ : ∃ y : Int32, y = (v5 + (1 : Int32)) := ⟨_, rfl⟩
      have hf := lt_at hf ex_8
      refine lv_iinc (v := x_8) (lv' := [(5, .int x_8), (0, .ref (ad E 13)), (1, .ref (ad E 1)), (2, .ref (ad E 7)), (3, .int b3), (4, .int b4)]) hx hb dX2_begin_39 hl (k := 5) rfl (by rw [ex_8]; rfl) (by decide) rfl (fun ls hl => ?_)
      refine lv_goto (tgt := 16) hx hb dX2_begin_42 (by decide) ?_
      exact ih x_8 σ_7 H locs ls hf I (lv_sub hl [1, 2, 3, 4, 5, 0] rfl)
set_option maxHeartbeats 4000000 in
set_option maxRecDepth 100000 in
theorem lp_X2_begin_48 {l : Launch} {p : Program} {e : Env} {s : State} {m : MethodId} {args : Array Value} {below : List Frame} {meth : Method} {c : Code} {E : En} {o : Int64} {res : Int32 × St} (C : Cx p c cX2_begin 6 s m args wsX2_begin RX2 E) (hr : meth.sig.returnType = none) (hlocks : meth.locks = false) (b3 : Int32) (b4 : Int32) (K81 : St → Option (Int32 × St)) (hK81 : ∀  (σ : St) (H : Heap) (locs : List Loc) (ls : Array Slot), K81 σ = some res → Iv E (AA E s.heap.size) s.heap o σ H locs → lv_has ls 6 [(0, .ref (ad E 13))] → WW_X2_begin p l e s m args below meth c E o res H locs 0 0 (F0 m 81 ls [])) :
    ∀ (n : Nat) (v5 : Int32) (σ : St) (H : Heap) (locs : List Loc) (ls : Array Slot), f_X2_begin_L48 b3 b4 K81 n v5 σ = some res → Iv E (AA E s.heap.size) s.heap o σ H locs → lv_has ls 6 [(0, .ref (ad E 13)), (1, .ref (ad E 1)), (2, .ref (ad E 7)), (3, .int b3), (4, .int b4), (5, .int v5)] → WW_X2_begin p l e s m args below meth c E o res H locs 0 0 (F0 m 48 ls []) := by
  have hx := C.1.1
  have hb := C.1.2.1
  intro n
  induction n with
  | zero => intro v5 σ H locs ls hf _ _; cases (show (none : Option (Int32 × St)) = some res from hf)
  | succ n ih =>
    intro v5 σ H locs ls hf I hl
    rw [f_X2_begin_L48] at hf
    refine lv_iload hx hb dX2_begin_48 (lv_at hl 5 rfl) ?_
    refine lv_aload_n hx hb dX2_begin_50 rfl (lv_at hl 0 rfl) ?_
    refine g_get (k := 13) (v := .int (σ 13 9)) C I (by decide) (gk_13 E o _) rfl in_X2_begin_X2 9 (by decide) (C.1.2.2.2.2 _ k_X2_begin_46) rfl dX2_begin_51 ?_
    refine lv_icmp_ge (tgt := 81) hx hb dX2_begin_54 (by decide) (fun c_10 => ?_) (fun c_10 => ?_)
    · have hf := if_t hf c_10
      exact hK81  σ H locs ls hf I (lv_sub hl [0] rfl)
    · have hf := if_f hf c_10
      refine lv_aload_n hx hb dX2_begin_57 rfl (lv_at hl 0 rfl) ?_
      refine lv_aload_n hx hb dX2_begin_58 rfl (lv_at hl 1 rfl) ?_
      refine lv_iload hx hb dX2_begin_59 (lv_at hl 5 rfl) ?_
      refine lv_aload_n hx hb dX2_begin_61 rfl (lv_at hl 2 rfl) ?_
      refine g_get (k := 7) (v := .ref (ad E 8)) C I (by decide) (gk_7 E o _) rfl in_X2_begin_X1 0 (by decide) (C.1.2.2.2.2 _ k_X2_begin_59) rfl dX2_begin_62 ?_
      refine lv_iload_n hx hb dX2_begin_65 rfl (lv_at hl 3 rfl) ?_
      obtain ⟨h_11, hf⟩ := ck_some hf
      refine g_aald (k := 8) (b := 9) C I (by decide) (gk_8 E o) (ixb_in h_11) (ixb_lt h_11) dX2_begin_66 ?_
      refine lv_iload hx hb dX2_begin_67 (lv_at hl 5 rfl) ?_
      obtain ⟨h_12, hf⟩ := ck_some hf
      refine g_iald (k := (9 + (b3).toNatClampNeg)) C I (gkn_9 (ixb_lt h_11)) (gkd_9 E o (ixb_lt h_11)) (ixb_in h_12) dX2_begin_69 ?_
      refine lv_iload hx hb dX2_begin_70 (lv_at hl 4 rfl) ?_
      obtain ⟨r_13, σ_14, hg_15, hf⟩ := bd_some hf
      refine g_cvv (av := [.ref (ad E 1), .int v5, .int (rd σ (9 + (b3).toNatClampNeg) v5), .int b4]) (rest := []) (k := 13) C I AA.new (c_X2_post l E o v5 ((rd σ (9 + (b3).toNatClampNeg) v5)) b4 σ hg_15) (cwV 4 C.1.2.2.2.2 gX2_begin_X2_post rfl rfl rfl (by decide +kernel) ⟨Nat.le_of_ble_eq_true rfl, Nat.le_of_ble_eq_true rfl⟩) (by decide) (gk_13 E o _) rfl rfl rfl hl.1 rfl (Nat.le_of_ble_eq_true rfl) ⟨Nat.le_of_ble_eq_true rfl, Nat.le_of_ble_eq_true rfl⟩ dX2_begin_72 (fun H locs I => ?_)
      obtain ⟨x_16, ex_16⟩ : ∃ y : Int32, y = (v5 + (1 : Int32)) := ⟨_, rfl⟩
      have hf := lt_at hf ex_16
      refine lv_iinc (v := x_16) (lv' := [(5, .int x_16), (0, .ref (ad E 13)), (1, .ref (ad E 1)), (2, .ref (ad E 7)), (3, .int b3), (4, .int b4)]) hx hb dX2_begin_75 hl (k := 5) rfl (by rw [ex_16]; rfl) (by decide) rfl (fun ls hl => ?_)
      refine lv_goto (tgt := 48) hx hb dX2_begin_78 (by decide) ?_
      exact ih x_16 σ_14 H locs ls hf I (lv_sub hl [1, 2, 3, 4, 5, 0] rfl)
set_option maxHeartbeats 4000000 in
set_option maxRecDepth 100000 in
theorem lp_X2_begin_84 {l : Launch} {p : Program} {e : Env} {s : State} {m : MethodId} {args : Array Value} {below : List Frame} {meth : Method} {c : Code} {E : En} {o : Int64} {res : Int32 × St} (C : Cx p c cX2_begin 6 s m args wsX2_begin RX2 E) (hr : meth.sig.returnType = none) (hlocks : meth.locks = false)  (K105 : St → Option (Int32 × St)) (hK105 : ∀  (σ : St) (H : Heap) (locs : List Loc) (ls : Array Slot), K105 σ = some res → Iv E (AA E s.heap.size) s.heap o σ H locs → lv_has ls 6 [] → WW_X2_begin p l e s m args below meth c E o res H locs 0 0 (F0 m 105 ls [])) :
    ∀ (n : Nat) (v5 : Int32) (σ : St) (H : Heap) (locs : List Loc) (ls : Array Slot), f_X2_begin_L84 K105 n v5 σ = some res → Iv E (AA E s.heap.size) s.heap o σ H locs → lv_has ls 6 [(0, .ref (ad E 13)), (5, .int v5)] → WW_X2_begin p l e s m args below meth c E o res H locs 0 0 (F0 m 84 ls []) := by
  have hx := C.1.1
  have hb := C.1.2.1
  intro n
  induction n with
  | zero => intro v5 σ H locs ls hf _ _; cases (show (none : Option (Int32 × St)) = some res from hf)
  | succ n ih =>
    intro v5 σ H locs ls hf I hl
    rw [f_X2_begin_L84] at hf
    refine lv_iload hx hb dX2_begin_84 (lv_at hl 1 rfl) ?_
    refine lv_bipush (v := (60 : Int32)) hx hb dX2_begin_86 (by decide) ?_
    refine lv_icmp_ge (tgt := 105) hx hb dX2_begin_88 (by decide) (fun c_18 => ?_) (fun c_18 => ?_)
    · have hf := if_t hf c_18
      exact hK105  σ H locs ls hf I (lv_sub hl [] rfl)
    · have hf := if_f hf c_18
      refine lv_aload_n hx hb dX2_begin_91 rfl (lv_at hl 0 rfl) ?_
      refine g_get (k := 13) (v := .ref (ad E 14)) C I (by decide) (gk_13 E o _) rfl in_X2_begin_X2 1 (by decide) (C.1.2.2.2.2 _ k_X2_begin_18) rfl dX2_begin_92 ?_
      refine lv_iload hx hb dX2_begin_95 (lv_at hl 1 rfl) ?_
      refine lv_iconst (v := (-1 : Int32)) hx hb dX2_begin_97 (by decide) ?_
      obtain ⟨h_19, hf⟩ := ck_some hf
      refine g_iast (k := 14) C I (by decide) (gk_14 E o) (ixb_in h_19) dX2_begin_98 (fun H locs σ_20 eσ_20 I => ?_)
      have hf := lt_at hf eσ_20
      obtain ⟨x_21, ex_21⟩ : ∃ y : Int32, y = (v5 + (1 : Int32)) := ⟨_, rfl⟩
      have hf := lt_at hf ex_21
      refine lv_iinc (v := x_21) (lv' := [(5, .int x_21), (0, .ref (ad E 13))]) hx hb dX2_begin_99 hl (k := 1) rfl (by rw [ex_21]; rfl) (by decide) rfl (fun ls hl => ?_)
      refine lv_goto (tgt := 84) hx hb dX2_begin_102 (by decide) ?_
      exact ih x_21 σ_20 H locs ls hf I (lv_sub hl [1, 0] rfl)
set_option maxHeartbeats 4000000 in
set_option maxRecDepth 100000 in
theorem c_X2_begin (l : Launch) (E : En) (o : Int64) (a3 : Int32) (a4 : Int32) (σ : St) {res : Int32 × St} (hf : f_X2_begin a3 a4 σ = some res) : CV l yX2_begin wsX2_begin rm_X2_begin E [.ref (ad E 13), .ref (ad E 1), .ref (ad E 7), .int a3, .int a4] o σ res.2 := by
  intro sz
  refine Met.ofW (cc := cX2_begin) (maxL := 6) (ret := none) (by decide) rfl ?_
  intro p e s m args below meth c s₁ B hml hv
  obtain ⟨rfl, hv⟩ := hv
  obtain ⟨rfl, hK, I⟩ := hv.start
  have C : Cx p c cX2_begin 6 s m _ wsX2_begin RX2 E := ⟨⟨B.exec, B.bytes, hml, findClass_of_methodNamed B.named, atoms_spec (ws := wsX2_begin) B.pre⟩, hK⟩
  have hx := C.1.1
  have hb := C.1.2.1
  have hr := B.returns
  have hlocks := B.notSynchronized
  clear hv
  have hl := lv_entry ([.ref (ad E 13), .ref (ad E 1), .ref (ad E 7), .int a3, .int a4]) (n := 6) (Nat.le_of_ble_eq_true rfl)
  rw [lg_entry_eq]
  generalize (lg_sl ([.ref (ad E 13), .ref (ad E 1), .ref (ad E 7), .int a3, .int a4]) ++ List.replicate (6 - (lg_sl ([.ref (ad E 13), .ref (ad E 1), .ref (ad E 7), .int a3, .int a4])).length) Slot.unset).toArray = ls at hl ⊢
  have hl : lv_has ls 6 [(0, .ref (ad E 13)), (1, .ref (ad E 1)), (2, .ref (ad E 7)), (3, .int a3), (4, .int a4)] := hl
  generalize ([.ref (ad E 13), .ref (ad E 1), .ref (ad E 7), .int a3, .int a4] : List Value).toArray = args at C ⊢
  refine g_begin I (fun H locs I => ?_)
  rw [f_X2_begin] at hf
  refine lv_aload_n hx hb dX2_begin_0 rfl (lv_at hl 0 rfl) ?_
  refine lv_aload_n hx hb dX2_begin_1 rfl (lv_at hl 2 rfl) ?_
  refine g_get (k := 7) (v := .int (σ 7 1)) C I (by decide) (gk_7 E o _) rfl in_X2_begin_X1 1 (by decide) (C.1.2.2.2.2 _ k_X2_begin_56) rfl dX2_begin_2 ?_
  refine g_put (k := 13) (v := (σ 7 1)) C I (by decide) (gk_13 E o) rfl in_X2_begin_X2 tyX2 tyX2_ok nmX2 9 (by decide) (C.1.2.2.2.2 _ k_X2_begin_46) rfl (by decide +kernel) (Nat.le_of_ble_eq_true rfl) rfl dX2_begin_5 (fun H locs σ_1 eσ_1 I => ?_)
  have hf := lt_at hf eσ_1
  refine lv_aload_n hx hb dX2_begin_8 rfl (lv_at hl 0 rfl) ?_
  refine lv_iconst (v := (0 : Int32)) hx hb dX2_begin_9 (by decide) ?_
  refine g_put (k := 13) (v := (0 : Int32)) C I (by decide) (gk_13 E o) rfl in_X2_begin_X2 tyX2 tyX2_ok nmX2 10 (by decide) (C.1.2.2.2.2 _ k_X2_begin_50) rfl (by decide +kernel) (Nat.le_of_ble_eq_true rfl) rfl dX2_begin_10 (fun H locs σ_2 eσ_2 I => ?_)
  have hf := lt_at hf eσ_2
  refine lv_iconst (v := (0 : Int32)) hx hb dX2_begin_13 (by decide) ?_
  refine lv_istore (lv' := [(5, .int (0 : Int32)), (0, .ref (ad E 13)), (1, .ref (ad E 1)), (2, .ref (ad E 7)), (3, .int a3), (4, .int a4)]) hx hb dX2_begin_14 hl (by decide) rfl (fun ls hl => ?_)
  refine lp_X2_begin_16 C hr hlocks a3 a4 _ ?_ _ (0 : Int32) σ_2 H locs ls hf I (lv_sub hl [1, 2, 3, 4, 5, 0] rfl)
  · intro  σ_9 H locs ls hf I hl
    refine lv_iconst (v := (0 : Int32)) hx hb dX2_begin_45 (by decide) ?_
    refine lv_istore (lv' := [(5, .int (0 : Int32)), (0, .ref (ad E 13)), (1, .ref (ad E 1)), (2, .ref (ad E 7)), (3, .int a3), (4, .int a4)]) hx hb dX2_begin_46 hl (by decide) rfl (fun ls hl => ?_)
    refine lp_X2_begin_48 C hr hlocks a3 a4 _ ?_ _ (0 : Int32) σ_9 H locs ls hf I (lv_sub hl [1, 2, 3, 4, 5, 0] rfl)
    · intro  σ_17 H locs ls hf I hl
      refine lv_iconst (v := (0 : Int32)) hx hb dX2_begin_81 (by decide) ?_
      refine lv_istore (lv' := [(5, .int (0 : Int32)), (0, .ref (ad E 13))]) hx hb dX2_begin_82 hl (by decide) rfl (fun ls hl => ?_)
      refine lp_X2_begin_84 C hr hlocks _ ?_ _ (0 : Int32) σ_17 H locs ls hf I (lv_sub hl [1, 0] rfl)
      · intro  σ_22 H locs ls hf I hl
        exact g_vret C I hr hlocks hf dX2_begin_105
abbrev rm_X2_goesAhead : Room := { frames := 0, cells := 0, slots := 0, locals := 0 }
abbrev WW_X2_goesAhead (p : Program) (l : Launch) (e : Env) (s : State) (m : MethodId) (args : Array Value) (below : List Frame) (meth : Method) (c : Code) (E : En) (o : Int64) (res : Int32 × St) (H : Heap) (locs : List Loc) (cells slots : Nat) (g : JFrame) : Prop := W p l e (headSpec wsX2_goesAhead rm_X2_goesAhead).room s m args below meth c H locs cells slots (MQ below (Qi E s.heap.size o res.1 res.2) args s 0 0 (AA E s.heap.size)) g
theorem k_X2_goesAhead_113 : Cond.fieldLink RX2 113 "DaySimulate$Day" "minute" "[I" ∈ wsX2_goesAhead := by decide +kernel
theorem k_X2_goesAhead_12 : Cond.fieldLink RX2 12 "DaySimulate$Play" "day" "LDaySimulate$Day;" ∈ wsX2_goesAhead := by decide +kernel
theorem k_X2_goesAhead_120 : Cond.fieldLink RX2 120 "DaySimulate$Day" "rank" "[I" ∈ wsX2_goesAhead := by decide +kernel
theorem in_X2_goesAhead_X0 : ∀ w ∈ wsX00, w ∈ wsX2_goesAhead := by decide +kernel
theorem in_X2_goesAhead_X2 : ∀ w ∈ wsX20, w ∈ wsX2_goesAhead := by decide +kernel
set_option maxHeartbeats 4000000 in
set_option maxRecDepth 100000 in
theorem c_X2_goesAhead (l : Launch) (E : En) (o : Int64) (a1 : Int32) (a2 : Int32) (σ : St) {res : Int32 × St} (hf : f_X2_goesAhead a1 a2 σ = some res) : CI l yX2_goesAhead wsX2_goesAhead rm_X2_goesAhead E [.ref (ad E 13), .int a1, .int a2] o σ res.1 res.2 := by
  intro sz
  refine Met.ofW (cc := cX2_goesAhead) (maxL := 3) (ret := (some .boolean)) (by decide) rfl ?_
  intro p e s m args below meth c s₁ B hml hv
  obtain ⟨rfl, hv⟩ := hv
  obtain ⟨rfl, hK, I⟩ := hv.start
  have C : Cx p c cX2_goesAhead 3 s m _ wsX2_goesAhead RX2 E := ⟨⟨B.exec, B.bytes, hml, findClass_of_methodNamed B.named, atoms_spec (ws := wsX2_goesAhead) B.pre⟩, hK⟩
  have hx := C.1.1
  have hb := C.1.2.1
  have hr := B.returns
  have hlocks := B.notSynchronized
  clear hv
  have hl := lv_entry ([.ref (ad E 13), .int a1, .int a2]) (n := 3) (Nat.le_of_ble_eq_true rfl)
  rw [lg_entry_eq]
  generalize (lg_sl ([.ref (ad E 13), .int a1, .int a2]) ++ List.replicate (3 - (lg_sl ([.ref (ad E 13), .int a1, .int a2])).length) Slot.unset).toArray = ls at hl ⊢
  have hl : lv_has ls 3 [(0, .ref (ad E 13)), (1, .int a1), (2, .int a2)] := hl
  generalize ([.ref (ad E 13), .int a1, .int a2] : List Value).toArray = args at C ⊢
  refine g_begin I (fun H locs I => ?_)
  rw [f_X2_goesAhead] at hf
  refine lv_aload_n hx hb dX2_goesAhead_0 rfl (lv_at hl 0 rfl) ?_
  refine g_get (k := 13) (v := .ref (ad E 34)) C I (by decide) (gk_13 E o _) rfl in_X2_goesAhead_X2 0 (by decide) (C.1.2.2.2.2 _ k_X2_goesAhead_12) rfl dX2_goesAhead_1 ?_
  refine g_get (k := 34) (v := .ref (ad E 37)) C I (by decide) (gk_34 E o _) rfl in_X2_goesAhead_X0 2 (by decide) (C.1.2.2.2.2 _ k_X2_goesAhead_120) rfl dX2_goesAhead_4 ?_
  refine lv_iload_n hx hb dX2_goesAhead_7 rfl (lv_at hl 1 rfl) ?_
  obtain ⟨h_1, hf⟩ := ck_some hf
  refine g_iald (k := 37) C I (by decide) (gk_37 E o) (ixb_in h_1) dX2_goesAhead_8 ?_
  refine lv_aload_n hx hb dX2_goesAhead_9 rfl (lv_at hl 0 rfl) ?_
  refine g_get (k := 13) (v := .ref (ad E 34)) C I (by decide) (gk_13 E o _) rfl in_X2_goesAhead_X2 0 (by decide) (C.1.2.2.2.2 _ k_X2_goesAhead_12) rfl dX2_goesAhead_10 ?_
  refine g_get (k := 34) (v := .ref (ad E 37)) C I (by decide) (gk_34 E o _) rfl in_X2_goesAhead_X0 2 (by decide) (C.1.2.2.2.2 _ k_X2_goesAhead_120) rfl dX2_goesAhead_13 ?_
  refine lv_iload_n hx hb dX2_goesAhead_16 rfl (lv_at hl 2 rfl) ?_
  obtain ⟨h_2, hf⟩ := ck_some hf
  refine g_iald (k := 37) C I (by decide) (gk_37 E o) (ixb_in h_2) dX2_goesAhead_17 ?_
  refine lv_icmp_eq (tgt := 48) hx hb dX2_goesAhead_18 (by decide) (fun c_3 => ?_) (fun c_3 => ?_)
  · have hf := if_t hf c_3
    refine lv_aload_n hx hb dX2_goesAhead_48 rfl (lv_at hl 0 rfl) ?_
    refine g_get (k := 13) (v := .ref (ad E 34)) C I (by decide) (gk_13 E o _) rfl in_X2_goesAhead_X2 0 (by decide) (C.1.2.2.2.2 _ k_X2_goesAhead_12) rfl dX2_goesAhead_49 ?_
    refine g_get (k := 34) (v := .ref (ad E 35)) C I (by decide) (gk_34 E o _) rfl in_X2_goesAhead_X0 0 (by decide) (C.1.2.2.2.2 _ k_X2_goesAhead_113) rfl dX2_goesAhead_52 ?_
    refine lv_iload_n hx hb dX2_goesAhead_55 rfl (lv_at hl 1 rfl) ?_
    obtain ⟨h_4, hf⟩ := ck_some hf
    refine g_iald (k := 35) C I (by decide) (gk_35 E o) (ixb_in h_4) dX2_goesAhead_56 ?_
    refine lv_aload_n hx hb dX2_goesAhead_57 rfl (lv_at hl 0 rfl) ?_
    refine g_get (k := 13) (v := .ref (ad E 34)) C I (by decide) (gk_13 E o _) rfl in_X2_goesAhead_X2 0 (by decide) (C.1.2.2.2.2 _ k_X2_goesAhead_12) rfl dX2_goesAhead_58 ?_
    refine g_get (k := 34) (v := .ref (ad E 35)) C I (by decide) (gk_34 E o _) rfl in_X2_goesAhead_X0 0 (by decide) (C.1.2.2.2.2 _ k_X2_goesAhead_113) rfl dX2_goesAhead_61 ?_
    refine lv_iload_n hx hb dX2_goesAhead_64 rfl (lv_at hl 2 rfl) ?_
    obtain ⟨h_5, hf⟩ := ck_some hf
    refine g_iald (k := 35) C I (by decide) (gk_35 E o) (ixb_in h_5) dX2_goesAhead_65 ?_
    refine lv_icmp_ge (tgt := 73) hx hb dX2_goesAhead_66 (by decide) (fun c_6 => ?_) (fun c_6 => ?_)
    · have hf := if_t hf c_6
      refine lv_iconst (v := (0 : Int32)) hx hb dX2_goesAhead_73 (by decide) ?_
      exact g_zret C I hr hlocks rfl hf dX2_goesAhead_74
    · have hf := if_f hf c_6
      refine lv_iconst (v := (1 : Int32)) hx hb dX2_goesAhead_69 (by decide) ?_
      refine lv_goto (tgt := 74) hx hb dX2_goesAhead_70 (by decide) ?_
      exact g_zret C I hr hlocks rfl hf dX2_goesAhead_74
  · have hf := if_f hf c_3
    refine lv_aload_n hx hb dX2_goesAhead_21 rfl (lv_at hl 0 rfl) ?_
    refine g_get (k := 13) (v := .ref (ad E 34)) C I (by decide) (gk_13 E o _) rfl in_X2_goesAhead_X2 0 (by decide) (C.1.2.2.2.2 _ k_X2_goesAhead_12) rfl dX2_goesAhead_22 ?_
    refine g_get (k := 34) (v := .ref (ad E 37)) C I (by decide) (gk_34 E o _) rfl in_X2_goesAhead_X0 2 (by decide) (C.1.2.2.2.2 _ k_X2_goesAhead_120) rfl dX2_goesAhead_25 ?_
    refine lv_iload_n hx hb dX2_goesAhead_28 rfl (lv_at hl 1 rfl) ?_
    obtain ⟨h_7, hf⟩ := ck_some hf
    refine g_iald (k := 37) C I (by decide) (gk_37 E o) (ixb_in h_7) dX2_goesAhead_29 ?_
    refine lv_aload_n hx hb dX2_goesAhead_30 rfl (lv_at hl 0 rfl) ?_
    refine g_get (k := 13) (v := .ref (ad E 34)) C I (by decide) (gk_13 E o _) rfl in_X2_goesAhead_X2 0 (by decide) (C.1.2.2.2.2 _ k_X2_goesAhead_12) rfl dX2_goesAhead_31 ?_
    refine g_get (k := 34) (v := .ref (ad E 37)) C I (by decide) (gk_34 E o _) rfl in_X2_goesAhead_X0 2 (by decide) (C.1.2.2.2.2 _ k_X2_goesAhead_120) rfl dX2_goesAhead_34 ?_
    refine lv_iload_n hx hb dX2_goesAhead_37 rfl (lv_at hl 2 rfl) ?_
    obtain ⟨h_8, hf⟩ := ck_some hf
    refine g_iald (k := 37) C I (by decide) (gk_37 E o) (ixb_in h_8) dX2_goesAhead_38 ?_
    refine lv_icmp_le (tgt := 46) hx hb dX2_goesAhead_39 (by decide) (fun c_9 => ?_) (fun c_9 => ?_)
    · have hf := if_t hf c_9
      refine lv_iconst (v := (0 : Int32)) hx hb dX2_goesAhead_46 (by decide) ?_
      exact g_zret C I hr hlocks rfl hf dX2_goesAhead_47
    · have hf := if_f hf c_9
      refine lv_iconst (v := (1 : Int32)) hx hb dX2_goesAhead_42 (by decide) ?_
      refine lv_goto (tgt := 47) hx hb dX2_goesAhead_43 (by decide) ?_
      exact g_zret C I hr hlocks rfl hf dX2_goesAhead_47
abbrev rm_X2_firstWaiting : Room := { frames := 1, cells := 0, slots := 0, locals := 22 }
abbrev WW_X2_firstWaiting (p : Program) (l : Launch) (e : Env) (s : State) (m : MethodId) (args : Array Value) (below : List Frame) (meth : Method) (c : Code) (E : En) (o : Int64) (res : Int32 × St) (H : Heap) (locs : List Loc) (cells slots : Nat) (g : JFrame) : Prop := W p l e (headSpec wsX2_firstWaiting rm_X2_firstWaiting).room s m args below meth c H locs cells slots (MQ below (Qi E s.heap.size o res.1 res.2) args s 0 0 (AA E s.heap.size)) g
theorem k_X2_firstWaiting_113 : Cond.fieldLink RX2 113 "DaySimulate$Day" "minute" "[I" ∈ wsX2_firstWaiting := by decide +kernel
theorem k_X2_firstWaiting_12 : Cond.fieldLink RX2 12 "DaySimulate$Play" "day" "LDaySimulate$Day;" ∈ wsX2_firstWaiting := by decide +kernel
theorem k_X2_firstWaiting_18 : Cond.fieldLink RX2 18 "DaySimulate$Play" "unitOf" "[I" ∈ wsX2_firstWaiting := by decide +kernel
theorem k_X2_firstWaiting_53 : Cond.fieldLink RX2 53 "DaySimulate$Day" "calls" "I" ∈ wsX2_firstWaiting := by decide +kernel
theorem in_X2_firstWaiting_X0 : ∀ w ∈ wsX00, w ∈ wsX2_firstWaiting := by decide +kernel
theorem in_X2_firstWaiting_X2 : ∀ w ∈ wsX20, w ∈ wsX2_firstWaiting := by decide +kernel
set_option maxHeartbeats 4000000 in
set_option maxRecDepth 100000 in
theorem lp_X2_firstWaiting_4 {l : Launch} {p : Program} {e : Env} {s : State} {m : MethodId} {args : Array Value} {below : List Frame} {meth : Method} {c : Code} {E : En} {o : Int64} {res : Int32 × St} (C : Cx p c cX2_firstWaiting 5 s m args wsX2_firstWaiting RX2 E) (hr : meth.sig.returnType = (some .int)) (hlocks : meth.locks = false) (b1 : Int32) (K72 : Int32 → St → Option (Int32 × St)) (hK72 : ∀ (u2 : Int32) (σ : St) (H : Heap) (locs : List Loc) (ls : Array Slot), K72 u2 σ = some res → Iv E (AA E s.heap.size) s.heap o σ H locs → lv_has ls 5 [(2, .int u2)] → WW_X2_firstWaiting p l e s m args below meth c E o res H locs 0 0 (F0 m 72 ls [])) :
    ∀ (n : Nat) (v2 : Int32) (v3 : Int32) (σ : St) (H : Heap) (locs : List Loc) (ls : Array Slot), f_X2_firstWaiting_L4 b1 K72 n v2 v3 σ = some res → Iv E (AA E s.heap.size) s.heap o σ H locs → lv_has ls 5 [(0, .ref (ad E 13)), (1, .int b1), (2, .int v2), (3, .int v3)] → WW_X2_firstWaiting p l e s m args below meth c E o res H locs 0 0 (F0 m 4 ls []) := by
  have hx := C.1.1
  have hb := C.1.2.1
  intro n
  induction n with
  | zero => intro v2 v3 σ H locs ls hf _ _; cases (show (none : Option (Int32 × St)) = some res from hf)
  | succ n ih =>
    intro v2 v3 σ H locs ls hf I hl
    rw [f_X2_firstWaiting_L4] at hf
    refine lv_iload_n hx hb dX2_firstWaiting_4 rfl (lv_at hl 3 rfl) ?_
    refine lv_aload_n hx hb dX2_firstWaiting_5 rfl (lv_at hl 0 rfl) ?_
    refine g_get (k := 13) (v := .ref (ad E 34)) C I (by decide) (gk_13 E o _) rfl in_X2_firstWaiting_X2 0 (by decide) (C.1.2.2.2.2 _ k_X2_firstWaiting_12) rfl dX2_firstWaiting_6 ?_
    refine g_get (k := 34) (v := .int (σ 34 4)) C I (by decide) (gk_34 E o _) rfl in_X2_firstWaiting_X0 4 (by decide) (C.1.2.2.2.2 _ k_X2_firstWaiting_53) rfl dX2_firstWaiting_9 ?_
    refine lv_icmp_ge (tgt := 72) hx hb dX2_firstWaiting_12 (by decide) (fun c_1 => ?_) (fun c_1 => ?_)
    · have hf := if_t hf c_1
      exact hK72 v2 σ H locs ls hf I (lv_sub hl [2] rfl)
    · have hf := if_f hf c_1
      refine lv_aload_n hx hb dX2_firstWaiting_15 rfl (lv_at hl 0 rfl) ?_
      refine g_get (k := 13) (v := .ref (ad E 14)) C I (by decide) (gk_13 E o _) rfl in_X2_firstWaiting_X2 1 (by decide) (C.1.2.2.2.2 _ k_X2_firstWaiting_18) rfl dX2_firstWaiting_16 ?_
      refine lv_iload_n hx hb dX2_firstWaiting_19 rfl (lv_at hl 3 rfl) ?_
      obtain ⟨h_2, hf⟩ := ck_some hf
      refine g_iald (k := 14) C I (by decide) (gk_14 E o) (ixb_in h_2) dX2_firstWaiting_20 ?_
      refine lv_iconst (v := (-1 : Int32)) hx hb dX2_firstWaiting_21 (by decide) ?_
      obtain ⟨J_4, eJ_4, hf⟩ := lt_split hf
      have hJ_4 : ∀ (y_7 : Int32) (σ_8 : St) (H : Heap) (locs : List Loc) (ls : Array Slot), J_4 y_7 σ_8 = some res → Iv E (AA E s.heap.size) s.heap o σ_8 H locs → lv_has ls 5 [(0, .ref (ad E 13)), (1, .int b1), (2, .int v2), (3, .int v3)] → WW_X2_firstWaiting p l e s m args below meth c E o res H locs 0 0 (F0 m 43 ls [.int y_7]) := by
        intro y_7 σ_8 H locs ls hf I hl
        rw [eJ_4] at hf
        refine lv_istore (lv' := [(4, .int y_7), (0, .ref (ad E 13)), (1, .int b1), (2, .int v2), (3, .int v3)]) hx hb dX2_firstWaiting_43 hl (by decide) rfl (fun ls hl => ?_)
        refine lv_iload hx hb dX2_firstWaiting_45 (lv_at hl 0 rfl) ?_
        refine lv_if_eq (tgt := 66) hx hb dX2_firstWaiting_47 (by decide) (fun c_9 => ?_) (fun c_9 => ?_)
        · have hf := if_t hf c_9
          obtain ⟨x_10, ex_10⟩ : ∃ y : Int32, y = (v3 + (1 : Int32)) := ⟨_, rfl⟩
          have hf := lt_at hf ex_10
          refine lv_iinc (v := x_10) (lv' := [(3, .int x_10), (4, .int y_7), (0, .ref (ad E 13)), (1, .int b1), (2, .int v2)]) hx hb dX2_firstWaiting_66 hl (k := 4) rfl (by rw [ex_10]; rfl) (by decide) rfl (fun ls hl => ?_)
          refine lv_goto (tgt := 4) hx hb dX2_firstWaiting_69 (by decide) ?_
          exact ih v2 x_10 σ_8 H locs ls hf I (lv_sub hl [2, 3, 4, 0] rfl)
        · have hf := if_f hf c_9
          refine lv_iload_n hx hb dX2_firstWaiting_50 rfl (lv_at hl 3 rfl) ?_
          refine lv_iconst (v := (-1 : Int32)) hx hb dX2_firstWaiting_51 (by decide) ?_
          refine lv_icmp_eq (tgt := 64) hx hb dX2_firstWaiting_52 (by decide) (fun c_11 => ?_) (fun c_11 => ?_)
          · have hf := if_t hf c_11
            refine lv_iload_n hx hb dX2_firstWaiting_64 rfl (lv_at hl 4 rfl) ?_
            refine lv_istore_n (lv' := [(2, .int v3), (4, .int y_7), (0, .ref (ad E 13)), (1, .int b1), (3, .int v3)]) hx hb dX2_firstWaiting_65 rfl hl (by decide) rfl (fun ls hl => ?_)
            obtain ⟨x_12, ex_12⟩ : ∃ y : Int32, y = (v3 + (1 : Int32)) := ⟨_, rfl⟩
            have hf := lt_at hf ex_12
            refine lv_iinc (v := x_12) (lv' := [(3, .int x_12), (2, .int v3), (4, .int y_7), (0, .ref (ad E 13)), (1, .int b1)]) hx hb dX2_firstWaiting_66 hl (k := 4) rfl (by rw [ex_12]; rfl) (by decide) rfl (fun ls hl => ?_)
            refine lv_goto (tgt := 4) hx hb dX2_firstWaiting_69 (by decide) ?_
            exact ih v3 x_12 σ_8 H locs ls hf I (lv_sub hl [3, 4, 1, 0] rfl)
          · have hf := if_f hf c_11
            refine lv_aload_n hx hb dX2_firstWaiting_55 rfl (lv_at hl 1 rfl) ?_
            refine lv_iload_n hx hb dX2_firstWaiting_56 rfl (lv_at hl 4 rfl) ?_
            refine lv_iload_n hx hb dX2_firstWaiting_57 rfl (lv_at hl 3 rfl) ?_
            obtain ⟨r_13, σ_14, hg_15, hf⟩ := bd_some hf
            refine g_cvi (av := [.int v3, .int v2]) (rest := []) (k := 13) C I AA.new (c_X2_goesAhead l E o v3 v2 σ_8 hg_15) (cwV 2 C.1.2.2.2.2 gX2_firstWaiting_X2_goesAhead rfl rfl rfl (by decide +kernel) ⟨Nat.le_of_ble_eq_true rfl, Nat.le_of_ble_eq_true rfl⟩) (by decide) (gk_13 E o _) rfl rfl rfl hl.1 rfl (Nat.le_of_ble_eq_true rfl) ⟨Nat.le_of_ble_eq_true rfl, Nat.le_of_ble_eq_true rfl⟩ dX2_firstWaiting_58 (fun H locs I => ?_)
            refine lv_if_eq (tgt := 66) hx hb dX2_firstWaiting_61 (by decide) (fun c_16 => ?_) (fun c_16 => ?_)
            · have hf := if_t hf c_16
              obtain ⟨x_17, ex_17⟩ : ∃ y : Int32, y = (v3 + (1 : Int32)) := ⟨_, rfl⟩
              have hf := lt_at hf ex_17
              refine lv_iinc (v := x_17) (lv' := [(3, .int x_17), (4, .int y_7), (0, .ref (ad E 13)), (1, .int b1), (2, .int v2)]) hx hb dX2_firstWaiting_66 hl (k := 4) rfl (by rw [ex_17]; rfl) (by decide) rfl (fun ls hl => ?_)
              refine lv_goto (tgt := 4) hx hb dX2_firstWaiting_69 (by decide) ?_
              exact ih v2 x_17 σ_14 H locs ls hf I (lv_sub hl [2, 3, 4, 0] rfl)
            · have hf := if_f hf c_16
              refine lv_iload_n hx hb dX2_firstWaiting_64 rfl (lv_at hl 4 rfl) ?_
              refine lv_istore_n (lv' := [(2, .int v3), (4, .int y_7), (0, .ref (ad E 13)), (1, .int b1), (3, .int v3)]) hx hb dX2_firstWaiting_65 rfl hl (by decide) rfl (fun ls hl => ?_)
              obtain ⟨x_18, ex_18⟩ : ∃ y : Int32, y = (v3 + (1 : Int32)) := ⟨_, rfl⟩
              have hf := lt_at hf ex_18
              refine lv_iinc (v := x_18) (lv' := [(3, .int x_18), (2, .int v3), (4, .int y_7), (0, .ref (ad E 13)), (1, .int b1)]) hx hb dX2_firstWaiting_66 hl (k := 4) rfl (by rw [ex_18]; rfl) (by decide) rfl (fun ls hl => ?_)
              refine lv_goto (tgt := 4) hx hb dX2_firstWaiting_69 (by decide) ?_
              exact ih v3 x_18 σ_14 H locs ls hf I (lv_sub hl [3, 4, 1, 0] rfl)
      refine lv_icmp_ne (tgt := 42) hx hb dX2_firstWaiting_22 (by decide) (fun c_3 => ?_) (fun c_3 => ?_)
      · have hf := if_f hf c_3
        refine lv_iconst (v := (0 : Int32)) hx hb dX2_firstWaiting_42 (by decide) ?_
        exact hJ_4 _ σ H locs ls hf I (lv_sub hl [0, 1, 2, 3] rfl)
      · have hf := if_t hf c_3
        refine lv_aload_n hx hb dX2_firstWaiting_25 rfl (lv_at hl 0 rfl) ?_
        refine g_get (k := 13) (v := .ref (ad E 34)) C I (by decide) (gk_13 E o _) rfl in_X2_firstWaiting_X2 0 (by decide) (C.1.2.2.2.2 _ k_X2_firstWaiting_12) rfl dX2_firstWaiting_26 ?_
        refine g_get (k := 34) (v := .ref (ad E 35)) C I (by decide) (gk_34 E o _) rfl in_X2_firstWaiting_X0 0 (by decide) (C.1.2.2.2.2 _ k_X2_firstWaiting_113) rfl dX2_firstWaiting_29 ?_
        refine lv_iload_n hx hb dX2_firstWaiting_32 rfl (lv_at hl 3 rfl) ?_
        obtain ⟨h_5, hf⟩ := ck_some hf
        refine g_iald (k := 35) C I (by decide) (gk_35 E o) (ixb_in h_5) dX2_firstWaiting_33 ?_
        refine lv_iload_n hx hb dX2_firstWaiting_34 rfl (lv_at hl 1 rfl) ?_
        refine lv_icmp_gt (tgt := 42) hx hb dX2_firstWaiting_35 (by decide) (fun c_6 => ?_) (fun c_6 => ?_)
        · have hf := if_t hf c_6
          refine lv_iconst (v := (0 : Int32)) hx hb dX2_firstWaiting_42 (by decide) ?_
          exact hJ_4 _ σ H locs ls hf I (lv_sub hl [0, 1, 2, 3] rfl)
        · have hf := if_f hf c_6
          refine lv_iconst (v := (1 : Int32)) hx hb dX2_firstWaiting_38 (by decide) ?_
          refine lv_goto (tgt := 43) hx hb dX2_firstWaiting_39 (by decide) ?_
          exact hJ_4 _ σ H locs ls hf I (lv_sub hl [0, 1, 2, 3] rfl)
set_option maxHeartbeats 4000000 in
set_option maxRecDepth 100000 in
theorem c_X2_firstWaiting (l : Launch) (E : En) (o : Int64) (a1 : Int32) (σ : St) {res : Int32 × St} (hf : f_X2_firstWaiting a1 σ = some res) : CI l yX2_firstWaiting wsX2_firstWaiting rm_X2_firstWaiting E [.ref (ad E 13), .int a1] o σ res.1 res.2 := by
  intro sz
  refine Met.ofW (cc := cX2_firstWaiting) (maxL := 5) (ret := (some .int)) (by decide) rfl ?_
  intro p e s m args below meth c s₁ B hml hv
  obtain ⟨rfl, hv⟩ := hv
  obtain ⟨rfl, hK, I⟩ := hv.start
  have C : Cx p c cX2_firstWaiting 5 s m _ wsX2_firstWaiting RX2 E := ⟨⟨B.exec, B.bytes, hml, findClass_of_methodNamed B.named, atoms_spec (ws := wsX2_firstWaiting) B.pre⟩, hK⟩
  have hx := C.1.1
  have hb := C.1.2.1
  have hr := B.returns
  have hlocks := B.notSynchronized
  clear hv
  have hl := lv_entry ([.ref (ad E 13), .int a1]) (n := 5) (Nat.le_of_ble_eq_true rfl)
  rw [lg_entry_eq]
  generalize (lg_sl ([.ref (ad E 13), .int a1]) ++ List.replicate (5 - (lg_sl ([.ref (ad E 13), .int a1])).length) Slot.unset).toArray = ls at hl ⊢
  have hl : lv_has ls 5 [(0, .ref (ad E 13)), (1, .int a1)] := hl
  generalize ([.ref (ad E 13), .int a1] : List Value).toArray = args at C ⊢
  refine g_begin I (fun H locs I => ?_)
  rw [f_X2_firstWaiting] at hf
  refine lv_iconst (v := (-1 : Int32)) hx hb dX2_firstWaiting_0 (by decide) ?_
  refine lv_istore_n (lv' := [(2, .int (-1 : Int32)), (0, .ref (ad E 13)), (1, .int a1)]) hx hb dX2_firstWaiting_1 rfl hl (by decide) rfl (fun ls hl => ?_)
  refine lv_iconst (v := (0 : Int32)) hx hb dX2_firstWaiting_2 (by decide) ?_
  refine lv_istore_n (lv' := [(3, .int (0 : Int32)), (2, .int (-1 : Int32)), (0, .ref (ad E 13)), (1, .int a1)]) hx hb dX2_firstWaiting_3 rfl hl (by decide) rfl (fun ls hl => ?_)
  refine lp_X2_firstWaiting_4 C hr hlocks a1 _ ?_ _ (-1 : Int32) (0 : Int32) σ H locs ls hf I (lv_sub hl [2, 3, 1, 0] rfl)
  · intro y_19 σ_20 H locs ls hf I hl
    refine lv_iload_n hx hb dX2_firstWaiting_72 rfl (lv_at hl 0 rfl) ?_
    exact g_iret C I hr hlocks hf dX2_firstWaiting_73
abbrev rm_X2_isFree : Room := { frames := 0, cells := 0, slots := 0, locals := 0 }
abbrev WW_X2_isFree (p : Program) (l : Launch) (e : Env) (s : State) (m : MethodId) (args : Array Value) (below : List Frame) (meth : Method) (c : Code) (E : En) (o : Int64) (res : Int32 × St) (H : Heap) (locs : List Loc) (cells slots : Nat) (g : JFrame) : Prop := W p l e (headSpec wsX2_isFree rm_X2_isFree).room s m args below meth c H locs cells slots (MQ below (Qi E s.heap.size o res.1 res.2) args s 0 0 (AA E s.heap.size)) g
theorem k_X2_isFree_40 : Cond.fieldLink RX2 40 "DaySimulate$Play" "backAt" "[I" ∈ wsX2_isFree := by decide +kernel
theorem k_X2_isFree_31 : Cond.fieldLink RX2 31 "DaySimulate$Play" "leftOut" "[Z" ∈ wsX2_isFree := by decide +kernel
theorem in_X2_isFree_X2 : ∀ w ∈ wsX20, w ∈ wsX2_isFree := by decide +kernel
set_option maxHeartbeats 4000000 in
set_option maxRecDepth 100000 in
theorem c_X2_isFree (l : Launch) (E : En) (o : Int64) (a1 : Int32) (a2 : Int32) (σ : St) {res : Int32 × St} (hf : f_X2_isFree a1 a2 σ = some res) : CI l yX2_isFree wsX2_isFree rm_X2_isFree E [.ref (ad E 13), .int a1, .int a2] o σ res.1 res.2 := by
  intro sz
  refine Met.ofW (cc := cX2_isFree) (maxL := 3) (ret := (some .boolean)) (by decide) rfl ?_
  intro p e s m args below meth c s₁ B hml hv
  obtain ⟨rfl, hv⟩ := hv
  obtain ⟨rfl, hK, I⟩ := hv.start
  have C : Cx p c cX2_isFree 3 s m _ wsX2_isFree RX2 E := ⟨⟨B.exec, B.bytes, hml, findClass_of_methodNamed B.named, atoms_spec (ws := wsX2_isFree) B.pre⟩, hK⟩
  have hx := C.1.1
  have hb := C.1.2.1
  have hr := B.returns
  have hlocks := B.notSynchronized
  clear hv
  have hl := lv_entry ([.ref (ad E 13), .int a1, .int a2]) (n := 3) (Nat.le_of_ble_eq_true rfl)
  rw [lg_entry_eq]
  generalize (lg_sl ([.ref (ad E 13), .int a1, .int a2]) ++ List.replicate (3 - (lg_sl ([.ref (ad E 13), .int a1, .int a2])).length) Slot.unset).toArray = ls at hl ⊢
  have hl : lv_has ls 3 [(0, .ref (ad E 13)), (1, .int a1), (2, .int a2)] := hl
  generalize ([.ref (ad E 13), .int a1, .int a2] : List Value).toArray = args at C ⊢
  refine g_begin I (fun H locs I => ?_)
  rw [f_X2_isFree] at hf
  refine lv_aload_n hx hb dX2_isFree_0 rfl (lv_at hl 0 rfl) ?_
  refine g_get (k := 13) (v := .ref (ad E 18)) C I (by decide) (gk_13 E o _) rfl in_X2_isFree_X2 5 (by decide) (C.1.2.2.2.2 _ k_X2_isFree_31) rfl dX2_isFree_1 ?_
  refine lv_iload_n hx hb dX2_isFree_4 rfl (lv_at hl 1 rfl) ?_
  obtain ⟨h_1, hf⟩ := ck_some hf
  refine g_zald (k := 18) C I (by decide) (gk_18 E o) (ixb_in h_1) dX2_isFree_5 ?_
  refine lv_if_ne (tgt := 23) hx hb dX2_isFree_6 (by decide) (fun c_2 => ?_) (fun c_2 => ?_)
  · have hf := if_f hf c_2
    refine lv_iconst (v := (0 : Int32)) hx hb dX2_isFree_23 (by decide) ?_
    exact g_zret C I hr hlocks rfl hf dX2_isFree_24
  · have hf := if_t hf c_2
    refine lv_aload_n hx hb dX2_isFree_9 rfl (lv_at hl 0 rfl) ?_
    refine g_get (k := 13) (v := .ref (ad E 32)) C I (by decide) (gk_13 E o _) rfl in_X2_isFree_X2 7 (by decide) (C.1.2.2.2.2 _ k_X2_isFree_40) rfl dX2_isFree_10 ?_
    refine lv_iload_n hx hb dX2_isFree_13 rfl (lv_at hl 1 rfl) ?_
    obtain ⟨h_3, hf⟩ := ck_some hf
    refine g_iald (k := 32) C I (by decide) (gk_32 E o) (ixb_in h_3) dX2_isFree_14 ?_
    refine lv_iload_n hx hb dX2_isFree_15 rfl (lv_at hl 2 rfl) ?_
    refine lv_icmp_gt (tgt := 23) hx hb dX2_isFree_16 (by decide) (fun c_4 => ?_) (fun c_4 => ?_)
    · have hf := if_t hf c_4
      refine lv_iconst (v := (0 : Int32)) hx hb dX2_isFree_23 (by decide) ?_
      exact g_zret C I hr hlocks rfl hf dX2_isFree_24
    · have hf := if_f hf c_4
      refine lv_iconst (v := (1 : Int32)) hx hb dX2_isFree_19 (by decide) ?_
      refine lv_goto (tgt := 24) hx hb dX2_isFree_20 (by decide) ?_
      exact g_zret C I hr hlocks rfl hf dX2_isFree_24
abbrev rm_X2_nearestFree : Room := { frames := 1, cells := 0, slots := 0, locals := 22 }
abbrev WW_X2_nearestFree (p : Program) (l : Launch) (e : Env) (s : State) (m : MethodId) (args : Array Value) (below : List Frame) (meth : Method) (c : Code) (E : En) (o : Int64) (res : Int32 × St) (H : Heap) (locs : List Loc) (cells slots : Nat) (g : JFrame) : Prop := W p l e (headSpec wsX2_nearestFree rm_X2_nearestFree).room s m args below meth c H locs cells slots (MQ below (Qi E s.heap.size o res.1 res.2) args s 0 0 (AA E s.heap.size)) g
theorem k_X2_nearestFree_37 : Cond.fieldLink RX2 37 "DaySimulate$Play" "wayTo" "[[I" ∈ wsX2_nearestFree := by decide +kernel
theorem k_X2_nearestFree_46 : Cond.fieldLink RX2 46 "DaySimulate$Play" "units" "I" ∈ wsX2_nearestFree := by decide +kernel
theorem k_X2_nearestFree_75 : Cond.constant RX2 75 (2147483647 : Int32) ∈ wsX2_nearestFree := by decide +kernel
theorem in_X2_nearestFree_X2 : ∀ w ∈ wsX20, w ∈ wsX2_nearestFree := by decide +kernel
set_option maxHeartbeats 4000000 in
set_option maxRecDepth 100000 in
theorem lp_X2_nearestFree_9 {l : Launch} {p : Program} {e : Env} {s : State} {m : MethodId} {args : Array Value} {below : List Frame} {meth : Method} {c : Code} {E : En} {o : Int64} {res : Int32 × St} (C : Cx p c cX2_nearestFree 6 s m args wsX2_nearestFree RX2 E) (hr : meth.sig.returnType = (some .int)) (hlocks : meth.locks = false) (b1 : Int32) (b2 : Int32) (K62 : Int32 → St → Option (Int32 × St)) (hK62 : ∀ (u3 : Int32) (σ : St) (H : Heap) (locs : List Loc) (ls : Array Slot), K62 u3 σ = some res → Iv E (AA E s.heap.size) s.heap o σ H locs → lv_has ls 6 [(3, .int u3)] → WW_X2_nearestFree p l e s m args below meth c E o res H locs 0 0 (F0 m 62 ls [])) :
    ∀ (n : Nat) (v3 : Int32) (v4 : Int32) (v5 : Int32) (σ : St) (H : Heap) (locs : List Loc) (ls : Array Slot), f_X2_nearestFree_L9 b1 b2 K62 n v3 v4 v5 σ = some res → Iv E (AA E s.heap.size) s.heap o σ H locs → lv_has ls 6 [(0, .ref (ad E 13)), (1, .int b1), (2, .int b2), (3, .int v3), (4, .int v4), (5, .int v5)] → WW_X2_nearestFree p l e s m args below meth c E o res H locs 0 0 (F0 m 9 ls []) := by
  have hx := C.1.1
  have hb := C.1.2.1
  intro n
  induction n with
  | zero => intro v3 v4 v5 σ H locs ls hf _ _; cases (show (none : Option (Int32 × St)) = some res from hf)
  | succ n ih =>
    intro v3 v4 v5 σ H locs ls hf I hl
    rw [f_X2_nearestFree_L9] at hf
    refine lv_iload hx hb dX2_nearestFree_9 (lv_at hl 5 rfl) ?_
    refine lv_aload_n hx hb dX2_nearestFree_11 rfl (lv_at hl 0 rfl) ?_
    refine g_get (k := 13) (v := .int (σ 13 9)) C I (by decide) (gk_13 E o _) rfl in_X2_nearestFree_X2 9 (by decide) (C.1.2.2.2.2 _ k_X2_nearestFree_46) rfl dX2_nearestFree_12 ?_
    refine lv_icmp_ge (tgt := 62) hx hb dX2_nearestFree_15 (by decide) (fun c_1 => ?_) (fun c_1 => ?_)
    · have hf := if_t hf c_1
      exact hK62 v3 σ H locs ls hf I (lv_sub hl [3] rfl)
    · have hf := if_f hf c_1
      refine lv_aload_n hx hb dX2_nearestFree_18 rfl (lv_at hl 0 rfl) ?_
      refine lv_iload hx hb dX2_nearestFree_19 (lv_at hl 5 rfl) ?_
      refine lv_iload_n hx hb dX2_nearestFree_21 rfl (lv_at hl 1 rfl) ?_
      obtain ⟨r_2, σ_3, hg_4, hf⟩ := bd_some hf
      refine g_cvi (av := [.int v5, .int b1]) (rest := []) (k := 13) C I AA.new (c_X2_isFree l E o v5 b1 σ hg_4) (cwV 2 C.1.2.2.2.2 gX2_nearestFree_X2_isFree rfl rfl rfl (by decide +kernel) ⟨Nat.le_of_ble_eq_true rfl, Nat.le_of_ble_eq_true rfl⟩) (by decide) (gk_13 E o _) rfl rfl rfl hl.1 rfl (Nat.le_of_ble_eq_true rfl) ⟨Nat.le_of_ble_eq_true rfl, Nat.le_of_ble_eq_true rfl⟩ dX2_nearestFree_22 (fun H locs I => ?_)
      refine lv_if_eq (tgt := 56) hx hb dX2_nearestFree_25 (by decide) (fun c_5 => ?_) (fun c_5 => ?_)
      · have hf := if_t hf c_5
        obtain ⟨x_6, ex_6⟩ : ∃ y : Int32, y = (v5 + (1 : Int32)) := ⟨_, rfl⟩
        have hf := lt_at hf ex_6
        refine lv_iinc (v := x_6) (lv' := [(5, .int x_6), (0, .ref (ad E 13)), (1, .int b1), (2, .int b2), (3, .int v3), (4, .int v4)]) hx hb dX2_nearestFree_56 hl (k := 5) rfl (by rw [ex_6]; rfl) (by decide) rfl (fun ls hl => ?_)
        refine lv_goto (tgt := 9) hx hb dX2_nearestFree_59 (by decide) ?_
        exact ih v3 v4 x_6 σ_3 H locs ls hf I (lv_sub hl [1, 2, 3, 4, 5, 0] rfl)
      · have hf := if_f hf c_5
        refine lv_aload_n hx hb dX2_nearestFree_28 rfl (lv_at hl 0 rfl) ?_
        refine g_get (k := 13) (v := .ref (ad E 19)) C I (by decide) (gk_13 E o _) rfl in_X2_nearestFree_X2 6 (by decide) (C.1.2.2.2.2 _ k_X2_nearestFree_37) rfl dX2_nearestFree_29 ?_
        refine lv_iload hx hb dX2_nearestFree_32 (lv_at hl 5 rfl) ?_
        obtain ⟨h_7, hf⟩ := ck_some hf
        refine g_aald (k := 19) (b := 20) C I (by decide) (gk_19 E o) (ixb_in h_7) (ixb_lt h_7) dX2_nearestFree_34 ?_
        refine lv_iload_n hx hb dX2_nearestFree_35 rfl (lv_at hl 2 rfl) ?_
        obtain ⟨h_8, hf⟩ := ck_some hf
        refine g_iald (k := (20 + (v5).toNatClampNeg)) C I (gkn_20 (ixb_lt h_7)) (gkd_20 E o (ixb_lt h_7)) (ixb_in h_8) dX2_nearestFree_36 ?_
        refine lv_iload hx hb dX2_nearestFree_37 (lv_at hl 4 rfl) ?_
        refine lv_icmp_ge (tgt := 56) hx hb dX2_nearestFree_39 (by decide) (fun c_9 => ?_) (fun c_9 => ?_)
        · have hf := if_t hf c_9
          obtain ⟨x_10, ex_10⟩ : ∃ y : Int32, y = (v5 + (1 : Int32)) := ⟨_, rfl⟩
          have hf := lt_at hf ex_10
          refine lv_iinc (v := x_10) (lv' := [(5, .int x_10), (0, .ref (ad E 13)), (1, .int b1), (2, .int b2), (3, .int v3), (4, .int v4)]) hx hb dX2_nearestFree_56 hl (k := 5) rfl (by rw [ex_10]; rfl) (by decide) rfl (fun ls hl => ?_)
          refine lv_goto (tgt := 9) hx hb dX2_nearestFree_59 (by decide) ?_
          exact ih v3 v4 x_10 σ_3 H locs ls hf I (lv_sub hl [1, 2, 3, 4, 5, 0] rfl)
        · have hf := if_f hf c_9
          refine lv_aload_n hx hb dX2_nearestFree_42 rfl (lv_at hl 0 rfl) ?_
          refine g_get (k := 13) (v := .ref (ad E 19)) C I (by decide) (gk_13 E o _) rfl in_X2_nearestFree_X2 6 (by decide) (C.1.2.2.2.2 _ k_X2_nearestFree_37) rfl dX2_nearestFree_43 ?_
          refine lv_iload hx hb dX2_nearestFree_46 (lv_at hl 5 rfl) ?_
          obtain ⟨h_11, hf⟩ := ck_some hf
          refine g_aald (k := 19) (b := 20) C I (by decide) (gk_19 E o) (ixb_in h_11) (ixb_lt h_11) dX2_nearestFree_48 ?_
          refine lv_iload_n hx hb dX2_nearestFree_49 rfl (lv_at hl 2 rfl) ?_
          obtain ⟨h_12, hf⟩ := ck_some hf
          refine g_iald (k := (20 + (v5).toNatClampNeg)) C I (gkn_20 (ixb_lt h_11)) (gkd_20 E o (ixb_lt h_11)) (ixb_in h_12) dX2_nearestFree_50 ?_
          refine lv_topi (fun x_13 ex_13 => ?_)
          have hf := lt_at hf ex_13
          refine lv_istore (lv' := [(4, .int x_13), (0, .ref (ad E 13)), (1, .int b1), (2, .int b2), (3, .int v3), (5, .int v5)]) hx hb dX2_nearestFree_51 hl (by decide) rfl (fun ls hl => ?_)
          refine lv_iload hx hb dX2_nearestFree_53 (lv_at hl 5 rfl) ?_
          refine lv_istore_n (lv' := [(3, .int v5), (4, .int x_13), (0, .ref (ad E 13)), (1, .int b1), (2, .int b2), (5, .int v5)]) hx hb dX2_nearestFree_55 rfl hl (by decide) rfl (fun ls hl => ?_)
          obtain ⟨x_14, ex_14⟩ : ∃ y : Int32, y = (v5 + (1 : Int32)) := ⟨_, rfl⟩
          have hf := lt_at hf ex_14
          refine lv_iinc (v := x_14) (lv' := [(5, .int x_14), (3, .int v5), (4, .int x_13), (0, .ref (ad E 13)), (1, .int b1), (2, .int b2)]) hx hb dX2_nearestFree_56 hl (k := 5) rfl (by rw [ex_14]; rfl) (by decide) rfl (fun ls hl => ?_)
          refine lv_goto (tgt := 9) hx hb dX2_nearestFree_59 (by decide) ?_
          exact ih v5 x_13 x_14 σ_3 H locs ls hf I (lv_sub hl [3, 4, 5, 1, 2, 0] rfl)
set_option maxHeartbeats 4000000 in
set_option maxRecDepth 100000 in
theorem c_X2_nearestFree (l : Launch) (E : En) (o : Int64) (a1 : Int32) (a2 : Int32) (σ : St) {res : Int32 × St} (hf : f_X2_nearestFree a1 a2 σ = some res) : CI l yX2_nearestFree wsX2_nearestFree rm_X2_nearestFree E [.ref (ad E 13), .int a1, .int a2] o σ res.1 res.2 := by
  intro sz
  refine Met.ofW (cc := cX2_nearestFree) (maxL := 6) (ret := (some .int)) (by decide) rfl ?_
  intro p e s m args below meth c s₁ B hml hv
  obtain ⟨rfl, hv⟩ := hv
  obtain ⟨rfl, hK, I⟩ := hv.start
  have C : Cx p c cX2_nearestFree 6 s m _ wsX2_nearestFree RX2 E := ⟨⟨B.exec, B.bytes, hml, findClass_of_methodNamed B.named, atoms_spec (ws := wsX2_nearestFree) B.pre⟩, hK⟩
  have hx := C.1.1
  have hb := C.1.2.1
  have hr := B.returns
  have hlocks := B.notSynchronized
  clear hv
  have hl := lv_entry ([.ref (ad E 13), .int a1, .int a2]) (n := 6) (Nat.le_of_ble_eq_true rfl)
  rw [lg_entry_eq]
  generalize (lg_sl ([.ref (ad E 13), .int a1, .int a2]) ++ List.replicate (6 - (lg_sl ([.ref (ad E 13), .int a1, .int a2])).length) Slot.unset).toArray = ls at hl ⊢
  have hl : lv_has ls 6 [(0, .ref (ad E 13)), (1, .int a1), (2, .int a2)] := hl
  generalize ([.ref (ad E 13), .int a1, .int a2] : List Value).toArray = args at C ⊢
  refine g_begin I (fun H locs I => ?_)
  rw [f_X2_nearestFree] at hf
  refine lv_iconst (v := (-1 : Int32)) hx hb dX2_nearestFree_0 (by decide) ?_
  refine lv_istore_n (lv' := [(3, .int (-1 : Int32)), (0, .ref (ad E 13)), (1, .int a1), (2, .int a2)]) hx hb dX2_nearestFree_1 rfl hl (by decide) rfl (fun ls hl => ?_)
  refine lv_ldc (v := (2147483647 : Int32)) hx hb C.1.2.2.2.1 (C.1.2.2.2.2 _ k_X2_nearestFree_75) dX2_nearestFree_2 ?_
  refine lv_istore (lv' := [(4, .int (2147483647 : Int32)), (3, .int (-1 : Int32)), (0, .ref (ad E 13)), (1, .int a1), (2, .int a2)]) hx hb dX2_nearestFree_4 hl (by decide) rfl (fun ls hl => ?_)
  refine lv_iconst (v := (0 : Int32)) hx hb dX2_nearestFree_6 (by decide) ?_
  refine lv_istore (lv' := [(5, .int (0 : Int32)), (4, .int (2147483647 : Int32)), (3, .int (-1 : Int32)), (0, .ref (ad E 13)), (1, .int a1), (2, .int a2)]) hx hb dX2_nearestFree_7 hl (by decide) rfl (fun ls hl => ?_)
  refine lp_X2_nearestFree_9 C hr hlocks a1 a2 _ ?_ _ (-1 : Int32) (2147483647 : Int32) (0 : Int32) σ H locs ls hf I (lv_sub hl [3, 4, 5, 2, 1, 0] rfl)
  · intro y_15 σ_16 H locs ls hf I hl
    refine lv_iload_n hx hb dX2_nearestFree_62 rfl (lv_at hl 0 rfl) ?_
    exact g_iret C I hr hlocks hf dX2_nearestFree_63
abbrev rm_X2_send : Room := { frames := 0, cells := 0, slots := 0, locals := 0 }
abbrev WW_X2_send (p : Program) (l : Launch) (e : Env) (s : State) (m : MethodId) (args : Array Value) (below : List Frame) (meth : Method) (c : Code) (E : En) (o : Int64) (res : Int32 × St) (H : Heap) (locs : List Loc) (cells slots : Nat) (g : JFrame) : Prop := W p l e (headSpec wsX2_send rm_X2_send).room s m args below meth c H locs cells slots (MQ below (Qv E s.heap.size o res.2) args s 0 0 (AA E s.heap.size)) g
theorem k_X2_send_40 : Cond.fieldLink RX2 40 "DaySimulate$Play" "backAt" "[I" ∈ wsX2_send := by decide +kernel
theorem k_X2_send_28 : Cond.fieldLink RX2 28 "DaySimulate$Play" "workOf" "[I" ∈ wsX2_send := by decide +kernel
theorem k_X2_send_110 : Cond.fieldLink RX2 110 "DaySimulate$Day" "lasts" "[I" ∈ wsX2_send := by decide +kernel
theorem k_X2_send_12 : Cond.fieldLink RX2 12 "DaySimulate$Play" "day" "LDaySimulate$Day;" ∈ wsX2_send := by decide +kernel
theorem k_X2_send_25 : Cond.fieldLink RX2 25 "DaySimulate$Play" "arrival" "[I" ∈ wsX2_send := by decide +kernel
theorem k_X2_send_22 : Cond.fieldLink RX2 22 "DaySimulate$Play" "wayOf" "[I" ∈ wsX2_send := by decide +kernel
theorem k_X2_send_18 : Cond.fieldLink RX2 18 "DaySimulate$Play" "unitOf" "[I" ∈ wsX2_send := by decide +kernel
theorem k_X2_send_100 : Cond.fieldLink RX2 100 "DaySimulate$Day" "area" "[I" ∈ wsX2_send := by decide +kernel
theorem k_X2_send_37 : Cond.fieldLink RX2 37 "DaySimulate$Play" "wayTo" "[[I" ∈ wsX2_send := by decide +kernel
theorem in_X2_send_X0 : ∀ w ∈ wsX00, w ∈ wsX2_send := by decide +kernel
theorem in_X2_send_X2 : ∀ w ∈ wsX20, w ∈ wsX2_send := by decide +kernel
set_option maxHeartbeats 4000000 in
set_option maxRecDepth 100000 in
theorem c_X2_send (l : Launch) (E : En) (o : Int64) (a1 : Int32) (a2 : Int32) (a3 : Int32) (σ : St) {res : Int32 × St} (hf : f_X2_send a1 a2 a3 σ = some res) : CV l yX2_send wsX2_send rm_X2_send E [.ref (ad E 13), .int a1, .int a2, .int a3] o σ res.2 := by
  intro sz
  refine Met.ofW (cc := cX2_send) (maxL := 5) (ret := none) (by decide) rfl ?_
  intro p e s m args below meth c s₁ B hml hv
  obtain ⟨rfl, hv⟩ := hv
  obtain ⟨rfl, hK, I⟩ := hv.start
  have C : Cx p c cX2_send 5 s m _ wsX2_send RX2 E := ⟨⟨B.exec, B.bytes, hml, findClass_of_methodNamed B.named, atoms_spec (ws := wsX2_send) B.pre⟩, hK⟩
  have hx := C.1.1
  have hb := C.1.2.1
  have hr := B.returns
  have hlocks := B.notSynchronized
  clear hv
  have hl := lv_entry ([.ref (ad E 13), .int a1, .int a2, .int a3]) (n := 5) (Nat.le_of_ble_eq_true rfl)
  rw [lg_entry_eq]
  generalize (lg_sl ([.ref (ad E 13), .int a1, .int a2, .int a3]) ++ List.replicate (5 - (lg_sl ([.ref (ad E 13), .int a1, .int a2, .int a3])).length) Slot.unset).toArray = ls at hl ⊢
  have hl : lv_has ls 5 [(0, .ref (ad E 13)), (1, .int a1), (2, .int a2), (3, .int a3)] := hl
  generalize ([.ref (ad E 13), .int a1, .int a2, .int a3] : List Value).toArray = args at C ⊢
  refine g_begin I (fun H locs I => ?_)
  rw [f_X2_send] at hf
  refine lv_aload_n hx hb dX2_send_0 rfl (lv_at hl 0 rfl) ?_
  refine g_get (k := 13) (v := .ref (ad E 19)) C I (by decide) (gk_13 E o _) rfl in_X2_send_X2 6 (by decide) (C.1.2.2.2.2 _ k_X2_send_37) rfl dX2_send_1 ?_
  refine lv_iload_n hx hb dX2_send_4 rfl (lv_at hl 2 rfl) ?_
  obtain ⟨h_1, hf⟩ := ck_some hf
  refine g_aald (k := 19) (b := 20) C I (by decide) (gk_19 E o) (ixb_in h_1) (ixb_lt h_1) dX2_send_5 ?_
  refine lv_aload_n hx hb dX2_send_6 rfl (lv_at hl 0 rfl) ?_
  refine g_get (k := 13) (v := .ref (ad E 34)) C I (by decide) (gk_13 E o _) rfl in_X2_send_X2 0 (by decide) (C.1.2.2.2.2 _ k_X2_send_12) rfl dX2_send_7 ?_
  refine g_get (k := 34) (v := .ref (ad E 36)) C I (by decide) (gk_34 E o _) rfl in_X2_send_X0 1 (by decide) (C.1.2.2.2.2 _ k_X2_send_100) rfl dX2_send_10 ?_
  refine lv_iload_n hx hb dX2_send_13 rfl (lv_at hl 1 rfl) ?_
  obtain ⟨h_2, hf⟩ := ck_some hf
  refine g_iald (k := 36) C I (by decide) (gk_36 E o) (ixb_in h_2) dX2_send_14 ?_
  obtain ⟨h_3, hf⟩ := ck_some hf
  refine g_iald (k := (20 + (a2).toNatClampNeg)) C I (gkn_20 (ixb_lt h_1)) (gkd_20 E o (ixb_lt h_1)) (ixb_in h_3) dX2_send_15 ?_
  refine lv_topi (fun x_4 ex_4 => ?_)
  have hf := lt_at hf ex_4
  refine lv_istore (lv' := [(4, .int x_4), (0, .ref (ad E 13)), (1, .int a1), (2, .int a2), (3, .int a3)]) hx hb dX2_send_16 hl (by decide) rfl (fun ls hl => ?_)
  refine lv_aload_n hx hb dX2_send_18 rfl (lv_at hl 1 rfl) ?_
  refine g_get (k := 13) (v := .ref (ad E 14)) C I (by decide) (gk_13 E o _) rfl in_X2_send_X2 1 (by decide) (C.1.2.2.2.2 _ k_X2_send_18) rfl dX2_send_19 ?_
  refine lv_iload_n hx hb dX2_send_22 rfl (lv_at hl 2 rfl) ?_
  refine lv_iload_n hx hb dX2_send_23 rfl (lv_at hl 3 rfl) ?_
  obtain ⟨h_5, hf⟩ := ck_some hf
  refine g_iast (k := 14) C I (by decide) (gk_14 E o) (ixb_in h_5) dX2_send_24 (fun H locs σ_6 eσ_6 I => ?_)
  have hf := lt_at hf eσ_6
  refine lv_aload_n hx hb dX2_send_25 rfl (lv_at hl 1 rfl) ?_
  refine g_get (k := 13) (v := .ref (ad E 15)) C I (by decide) (gk_13 E o _) rfl in_X2_send_X2 2 (by decide) (C.1.2.2.2.2 _ k_X2_send_22) rfl dX2_send_26 ?_
  refine lv_iload_n hx hb dX2_send_29 rfl (lv_at hl 2 rfl) ?_
  refine lv_iload hx hb dX2_send_30 (lv_at hl 0 rfl) ?_
  obtain ⟨h_7, hf⟩ := ck_some hf
  refine g_iast (k := 15) C I (by decide) (gk_15 E o) (ixb_in h_7) dX2_send_32 (fun H locs σ_8 eσ_8 I => ?_)
  have hf := lt_at hf eσ_8
  refine lv_aload_n hx hb dX2_send_33 rfl (lv_at hl 1 rfl) ?_
  refine g_get (k := 13) (v := .ref (ad E 16)) C I (by decide) (gk_13 E o _) rfl in_X2_send_X2 3 (by decide) (C.1.2.2.2.2 _ k_X2_send_25) rfl dX2_send_34 ?_
  refine lv_iload_n hx hb dX2_send_37 rfl (lv_at hl 2 rfl) ?_
  refine lv_iload_n hx hb dX2_send_38 rfl (lv_at hl 4 rfl) ?_
  refine lv_iload hx hb dX2_send_39 (lv_at hl 0 rfl) ?_
  refine lv_iadd hx hb dX2_send_41 ?_
  obtain ⟨h_9, hf⟩ := ck_some hf
  refine g_iast (k := 16) C I (by decide) (gk_16 E o) (ixb_in h_9) dX2_send_42 (fun H locs σ_10 eσ_10 I => ?_)
  have hf := lt_at hf eσ_10
  refine lv_aload_n hx hb dX2_send_43 rfl (lv_at hl 1 rfl) ?_
  refine g_get (k := 13) (v := .ref (ad E 32)) C I (by decide) (gk_13 E o _) rfl in_X2_send_X2 7 (by decide) (C.1.2.2.2.2 _ k_X2_send_40) rfl dX2_send_44 ?_
  refine lv_iload_n hx hb dX2_send_47 rfl (lv_at hl 3 rfl) ?_
  refine lv_aload_n hx hb dX2_send_48 rfl (lv_at hl 1 rfl) ?_
  refine g_get (k := 13) (v := .ref (ad E 16)) C I (by decide) (gk_13 E o _) rfl in_X2_send_X2 3 (by decide) (C.1.2.2.2.2 _ k_X2_send_25) rfl dX2_send_49 ?_
  refine lv_iload_n hx hb dX2_send_52 rfl (lv_at hl 2 rfl) ?_
  obtain ⟨h_11, hf⟩ := ck_some hf
  refine g_iald (k := 16) C I (by decide) (gk_16 E o) (ixb_in h_11) dX2_send_53 ?_
  refine lv_aload_n hx hb dX2_send_54 rfl (lv_at hl 1 rfl) ?_
  refine g_get (k := 13) (v := .ref (ad E 34)) C I (by decide) (gk_13 E o _) rfl in_X2_send_X2 0 (by decide) (C.1.2.2.2.2 _ k_X2_send_12) rfl dX2_send_55 ?_
  refine g_get (k := 34) (v := .ref (ad E 38)) C I (by decide) (gk_34 E o _) rfl in_X2_send_X0 3 (by decide) (C.1.2.2.2.2 _ k_X2_send_110) rfl dX2_send_58 ?_
  refine lv_iload_n hx hb dX2_send_61 rfl (lv_at hl 2 rfl) ?_
  obtain ⟨h_12, hf⟩ := ck_some hf
  refine g_iald (k := 38) C I (by decide) (gk_38 E o) (ixb_in h_12) dX2_send_62 ?_
  refine lv_iadd hx hb dX2_send_63 ?_
  refine lv_iload hx hb dX2_send_64 (lv_at hl 0 rfl) ?_
  refine lv_iadd hx hb dX2_send_66 ?_
  obtain ⟨h_13, hf⟩ := ck_some hf
  refine g_iast (k := 32) C I (by decide) (gk_32 E o) (ixb_in h_13) dX2_send_67 (fun H locs σ_14 eσ_14 I => ?_)
  have hf := lt_at hf eσ_14
  refine lv_aload_n hx hb dX2_send_68 rfl (lv_at hl 1 rfl) ?_
  refine g_get (k := 13) (v := .ref (ad E 17)) C I (by decide) (gk_13 E o _) rfl in_X2_send_X2 4 (by decide) (C.1.2.2.2.2 _ k_X2_send_28) rfl dX2_send_69 ?_
  refine lv_iload_n hx hb dX2_send_72 rfl (lv_at hl 3 rfl) ?_
  refine lv_dup2_11 hx hb dX2_send_73 rfl rfl ?_
  obtain ⟨h_15, hf⟩ := ck_some hf
  refine g_iald (k := 17) C I (by decide) (gk_17 E o) (ixb_in h_15) dX2_send_74 ?_
  refine lv_aload_n hx hb dX2_send_75 rfl (lv_at hl 1 rfl) ?_
  refine g_get (k := 13) (v := .ref (ad E 32)) C I (by decide) (gk_13 E o _) rfl in_X2_send_X2 7 (by decide) (C.1.2.2.2.2 _ k_X2_send_40) rfl dX2_send_76 ?_
  refine lv_iload_n hx hb dX2_send_79 rfl (lv_at hl 3 rfl) ?_
  obtain ⟨h_16, hf⟩ := ck_some hf
  refine g_iald (k := 32) C I (by decide) (gk_32 E o) (ixb_in h_16) dX2_send_80 ?_
  refine lv_iload_n hx hb dX2_send_81 rfl (lv_at hl 4 rfl) ?_
  refine lv_isub hx hb dX2_send_82 ?_
  refine lv_iadd hx hb dX2_send_83 ?_
  obtain ⟨h_17, hf⟩ := ck_some hf
  refine g_iast (k := 17) C I (by decide) (gk_17 E o) (ixb_in h_17) dX2_send_84 (fun H locs σ_18 eσ_18 I => ?_)
  have hf := lt_at hf eσ_18
  exact g_vret C I hr hlocks hf dX2_send_85
abbrev rm_X2_sendUnits : Room := { frames := 2, cells := 0, slots := 0, locals := 47 }
abbrev WW_X2_sendUnits (p : Program) (l : Launch) (e : Env) (s : State) (m : MethodId) (args : Array Value) (below : List Frame) (meth : Method) (c : Code) (E : En) (o : Int64) (res : Int32 × St) (H : Heap) (locs : List Loc) (cells slots : Nat) (g : JFrame) : Prop := W p l e (headSpec wsX2_sendUnits rm_X2_sendUnits).room s m args below meth c H locs cells slots (MQ below (Qv E s.heap.size o res.2) args s 0 0 (AA E s.heap.size)) g
theorem k_X2_sendUnits_100 : Cond.fieldLink RX2 100 "DaySimulate$Day" "area" "[I" ∈ wsX2_sendUnits := by decide +kernel
theorem k_X2_sendUnits_12 : Cond.fieldLink RX2 12 "DaySimulate$Play" "day" "LDaySimulate$Day;" ∈ wsX2_sendUnits := by decide +kernel
theorem in_X2_sendUnits_X0 : ∀ w ∈ wsX00, w ∈ wsX2_sendUnits := by decide +kernel
theorem in_X2_sendUnits_X2 : ∀ w ∈ wsX20, w ∈ wsX2_sendUnits := by decide +kernel
set_option maxHeartbeats 4000000 in
set_option maxRecDepth 100000 in
theorem lp_X2_sendUnits_2 {l : Launch} {p : Program} {e : Env} {s : State} {m : MethodId} {args : Array Value} {below : List Frame} {meth : Method} {c : Code} {E : En} {o : Int64} {res : Int32 × St} (C : Cx p c cX2_sendUnits 5 s m args wsX2_sendUnits RX2 E) (hr : meth.sig.returnType = none) (hlocks : meth.locks = false) (b1 : Int32) (K19 : St → Option (Int32 × St)) (hK19 : ∀  (σ : St) (H : Heap) (locs : List Loc) (ls : Array Slot), K19 σ = some res → Iv E (AA E s.heap.size) s.heap o σ H locs → lv_has ls 5 [] → WW_X2_sendUnits p l e s m args below meth c E o res H locs 0 0 (F0 m 19 ls [])) (K42 : St → Option (Int32 × St)) (hK42 : ∀  (σ : St) (H : Heap) (locs : List Loc) (ls : Array Slot), K42 σ = some res → Iv E (AA E s.heap.size) s.heap o σ H locs → lv_has ls 5 [] → WW_X2_sendUnits p l e s m args below meth c E o res H locs 0 0 (F0 m 42 ls [])) (K57 : St → Option (Int32 × St)) (hK57 : ∀  (σ : St) (H : Heap) (locs : List Loc) (ls : Array Slot), K57 σ = some res → Iv E (AA E s.heap.size) s.heap o σ H locs → lv_has ls 5 [] → WW_X2_sendUnits p l e s m args below meth c E o res H locs 0 0 (F0 m 57 ls [])) :
    ∀ (n : Nat) (v2 : Int32) (σ : St) (H : Heap) (locs : List Loc) (ls : Array Slot), f_X2_sendUnits_L2 b1 K19 K42 K57 n v2 σ = some res → Iv E (AA E s.heap.size) s.heap o σ H locs → lv_has ls 5 [(0, .ref (ad E 13)), (1, .int b1), (2, .int v2)] → WW_X2_sendUnits p l e s m args below meth c E o res H locs 0 0 (F0 m 2 ls []) := by
  have hx := C.1.1
  have hb := C.1.2.1
  intro n
  induction n with
  | zero => intro v2 σ H locs ls hf _ _; cases (show (none : Option (Int32 × St)) = some res from hf)
  | succ n ih =>
    intro v2 σ H locs ls hf I hl
    rw [f_X2_sendUnits_L2] at hf
    refine lv_iload_n hx hb dX2_sendUnits_2 rfl (lv_at hl 2 rfl) ?_
    refine lv_bipush (v := (60 : Int32)) hx hb dX2_sendUnits_3 (by decide) ?_
    refine lv_icmp_ge (tgt := 57) hx hb dX2_sendUnits_5 (by decide) (fun c_1 => ?_) (fun c_1 => ?_)
    · have hf := if_t hf c_1
      exact hK57  σ H locs ls hf I (lv_sub hl [] rfl)
    · have hf := if_f hf c_1
      refine lv_aload_n hx hb dX2_sendUnits_8 rfl (lv_at hl 0 rfl) ?_
      refine lv_iload_n hx hb dX2_sendUnits_9 rfl (lv_at hl 1 rfl) ?_
      obtain ⟨r_2, σ_3, hg_4, hf⟩ := bd_some hf
      refine g_cvi (av := [.int b1]) (rest := []) (k := 13) C I AA.new (c_X2_firstWaiting l E o b1 σ hg_4) (cwV 1 C.1.2.2.2.2 gX2_sendUnits_X2_firstWaiting rfl rfl rfl (by decide +kernel) ⟨Nat.le_of_ble_eq_true rfl, Nat.le_of_ble_eq_true rfl⟩) (by decide) (gk_13 E o _) rfl rfl rfl hl.1 rfl (Nat.le_of_ble_eq_true rfl) ⟨Nat.le_of_ble_eq_true rfl, Nat.le_of_ble_eq_true rfl⟩ dX2_sendUnits_10 (fun H locs I => ?_)
      refine lv_istore_n (lv' := [(3, .int r_2), (0, .ref (ad E 13)), (1, .int b1), (2, .int v2)]) hx hb dX2_sendUnits_13 rfl hl (by decide) rfl (fun ls hl => ?_)
      refine lv_iload_n hx hb dX2_sendUnits_14 rfl (lv_at hl 0 rfl) ?_
      refine lv_iconst (v := (-1 : Int32)) hx hb dX2_sendUnits_15 (by decide) ?_
      refine lv_icmp_ne (tgt := 20) hx hb dX2_sendUnits_16 (by decide) (fun c_5 => ?_) (fun c_5 => ?_)
      · have hf := if_f hf c_5
        refine lv_aload_n hx hb dX2_sendUnits_20 rfl (lv_at hl 1 rfl) ?_
        refine lv_iload_n hx hb dX2_sendUnits_21 rfl (lv_at hl 2 rfl) ?_
        refine lv_aload_n hx hb dX2_sendUnits_22 rfl (lv_at hl 1 rfl) ?_
        refine g_get (k := 13) (v := .ref (ad E 34)) C I (by decide) (gk_13 E o _) rfl in_X2_sendUnits_X2 0 (by decide) (C.1.2.2.2.2 _ k_X2_sendUnits_12) rfl dX2_sendUnits_23 ?_
        refine g_get (k := 34) (v := .ref (ad E 36)) C I (by decide) (gk_34 E o _) rfl in_X2_sendUnits_X0 1 (by decide) (C.1.2.2.2.2 _ k_X2_sendUnits_100) rfl dX2_sendUnits_26 ?_
        refine lv_iload_n hx hb dX2_sendUnits_29 rfl (lv_at hl 0 rfl) ?_
        obtain ⟨h_6, hf⟩ := ck_some hf
        refine g_iald (k := 36) C I (by decide) (gk_36 E o) (ixb_in h_6) dX2_sendUnits_30 ?_
        obtain ⟨r_7, σ_8, hg_9, hf⟩ := bd_some hf
        refine g_cvi (av := [.int b1, .int (rd σ_3 36 r_2)]) (rest := []) (k := 13) C I AA.new (c_X2_nearestFree l E o b1 ((rd σ_3 36 r_2)) σ_3 hg_9) (cwV 2 C.1.2.2.2.2 gX2_sendUnits_X2_nearestFree rfl rfl rfl (by decide +kernel) ⟨Nat.le_of_ble_eq_true rfl, Nat.le_of_ble_eq_true rfl⟩) (by decide) (gk_13 E o _) rfl rfl rfl hl.1 rfl (Nat.le_of_ble_eq_true rfl) ⟨Nat.le_of_ble_eq_true rfl, Nat.le_of_ble_eq_true rfl⟩ dX2_sendUnits_31 (fun H locs I => ?_)
        refine lv_istore (lv' := [(4, .int r_7), (3, .int r_2), (0, .ref (ad E 13)), (1, .int b1), (2, .int v2)]) hx hb dX2_sendUnits_34 hl (by decide) rfl (fun ls hl => ?_)
        refine lv_iload hx hb dX2_sendUnits_36 (lv_at hl 0 rfl) ?_
        refine lv_iconst (v := (-1 : Int32)) hx hb dX2_sendUnits_38 (by decide) ?_
        refine lv_icmp_ne (tgt := 43) hx hb dX2_sendUnits_39 (by decide) (fun c_10 => ?_) (fun c_10 => ?_)
        · have hf := if_f hf c_10
          refine lv_aload_n hx hb dX2_sendUnits_43 rfl (lv_at hl 2 rfl) ?_
          refine lv_iload_n hx hb dX2_sendUnits_44 rfl (lv_at hl 1 rfl) ?_
          refine lv_iload hx hb dX2_sendUnits_45 (lv_at hl 0 rfl) ?_
          refine lv_iload_n hx hb dX2_sendUnits_47 rfl (lv_at hl 3 rfl) ?_
          obtain ⟨r_11, σ_12, hg_13, hf⟩ := bd_some hf
          refine g_cvv (av := [.int r_2, .int r_7, .int b1]) (rest := []) (k := 13) C I AA.new (c_X2_send l E o r_2 r_7 b1 σ_8 hg_13) (cwV 3 C.1.2.2.2.2 gX2_sendUnits_X2_send rfl rfl rfl (by decide +kernel) ⟨Nat.le_of_ble_eq_true rfl, Nat.le_of_ble_eq_true rfl⟩) (by decide) (gk_13 E o _) rfl rfl rfl hl.1 rfl (Nat.le_of_ble_eq_true rfl) ⟨Nat.le_of_ble_eq_true rfl, Nat.le_of_ble_eq_true rfl⟩ dX2_sendUnits_48 (fun H locs I => ?_)
          obtain ⟨x_14, ex_14⟩ : ∃ y : Int32, y = (v2 + (1 : Int32)) := ⟨_, rfl⟩
          have hf := lt_at hf ex_14
          refine lv_iinc (v := x_14) (lv' := [(2, .int x_14), (4, .int r_7), (3, .int r_2), (0, .ref (ad E 13)), (1, .int b1)]) hx hb dX2_sendUnits_51 hl (k := 4) rfl (by rw [ex_14]; rfl) (by decide) rfl (fun ls hl => ?_)
          refine lv_goto (tgt := 2) hx hb dX2_sendUnits_54 (by decide) ?_
          exact ih x_14 σ_12 H locs ls hf I (lv_sub hl [3, 4, 0] rfl)
        · have hf := if_t hf c_10
          exact hK42  σ_8 H locs ls hf I (lv_sub hl [] rfl)
      · have hf := if_t hf c_5
        exact hK19  σ_3 H locs ls hf I (lv_sub hl [] rfl)
set_option maxHeartbeats 4000000 in
set_option maxRecDepth 100000 in
theorem c_X2_sendUnits (l : Launch) (E : En) (o : Int64) (a1 : Int32) (σ : St) {res : Int32 × St} (hf : f_X2_sendUnits a1 σ = some res) : CV l yX2_sendUnits wsX2_sendUnits rm_X2_sendUnits E [.ref (ad E 13), .int a1] o σ res.2 := by
  intro sz
  refine Met.ofW (cc := cX2_sendUnits) (maxL := 5) (ret := none) (by decide) rfl ?_
  intro p e s m args below meth c s₁ B hml hv
  obtain ⟨rfl, hv⟩ := hv
  obtain ⟨rfl, hK, I⟩ := hv.start
  have C : Cx p c cX2_sendUnits 5 s m _ wsX2_sendUnits RX2 E := ⟨⟨B.exec, B.bytes, hml, findClass_of_methodNamed B.named, atoms_spec (ws := wsX2_sendUnits) B.pre⟩, hK⟩
  have hx := C.1.1
  have hb := C.1.2.1
  have hr := B.returns
  have hlocks := B.notSynchronized
  clear hv
  have hl := lv_entry ([.ref (ad E 13), .int a1]) (n := 5) (Nat.le_of_ble_eq_true rfl)
  rw [lg_entry_eq]
  generalize (lg_sl ([.ref (ad E 13), .int a1]) ++ List.replicate (5 - (lg_sl ([.ref (ad E 13), .int a1])).length) Slot.unset).toArray = ls at hl ⊢
  have hl : lv_has ls 5 [(0, .ref (ad E 13)), (1, .int a1)] := hl
  generalize ([.ref (ad E 13), .int a1] : List Value).toArray = args at C ⊢
  refine g_begin I (fun H locs I => ?_)
  rw [f_X2_sendUnits] at hf
  refine lv_iconst (v := (0 : Int32)) hx hb dX2_sendUnits_0 (by decide) ?_
  refine lv_istore_n (lv' := [(2, .int (0 : Int32)), (0, .ref (ad E 13)), (1, .int a1)]) hx hb dX2_sendUnits_1 rfl hl (by decide) rfl (fun ls hl => ?_)
  refine lp_X2_sendUnits_2 C hr hlocks a1 _ ?_ _ ?_ _ ?_ _ (0 : Int32) σ H locs ls hf I (lv_sub hl [1, 2, 0] rfl)
  · intro  σ_15 H locs ls hf I hl
    exact g_vret C I hr hlocks hf dX2_sendUnits_19
  · intro  σ_16 H locs ls hf I hl
    exact g_vret C I hr hlocks hf dX2_sendUnits_42
  · intro  σ_17 H locs ls hf I hl
    exact g_vret C I hr hlocks hf dX2_sendUnits_57
abbrev rm_X2_nextEvent : Room := { frames := 1, cells := 0, slots := 0, locals := 13 }
abbrev WW_X2_nextEvent (p : Program) (l : Launch) (e : Env) (s : State) (m : MethodId) (args : Array Value) (below : List Frame) (meth : Method) (c : Code) (E : En) (o : Int64) (res : Int32 × St) (H : Heap) (locs : List Loc) (cells slots : Nat) (g : JFrame) : Prop := W p l e (headSpec wsX2_nextEvent rm_X2_nextEvent).room s m args below meth c H locs cells slots (MQ below (Qi E s.heap.size o res.1 res.2) args s 0 0 (AA E s.heap.size)) g
theorem k_X2_nextEvent_88 : Cond.methodLink RX2 88 Lib.Math.min.name ∈ wsX2_nextEvent := by decide +kernel
theorem k_X2_nextEvent_static_min : Cond.static Lib.Math.min.name ∈ wsX2_nextEvent := by decide +kernel
theorem k_X2_nextEvent_iniMath : Cond.initialized "java/lang/Math" ∈ wsX2_nextEvent := by decide +kernel
theorem k_X2_nextEvent_code_min : Cond.code Lib.Math.min.name Lib.Math.min.code 2 (some .int) ∈ wsX2_nextEvent := by decide +kernel
theorem k_X2_nextEvent_113 : Cond.fieldLink RX2 113 "DaySimulate$Day" "minute" "[I" ∈ wsX2_nextEvent := by decide +kernel
theorem k_X2_nextEvent_12 : Cond.fieldLink RX2 12 "DaySimulate$Play" "day" "LDaySimulate$Day;" ∈ wsX2_nextEvent := by decide +kernel
theorem k_X2_nextEvent_53 : Cond.fieldLink RX2 53 "DaySimulate$Day" "calls" "I" ∈ wsX2_nextEvent := by decide +kernel
theorem k_X2_nextEvent_40 : Cond.fieldLink RX2 40 "DaySimulate$Play" "backAt" "[I" ∈ wsX2_nextEvent := by decide +kernel
theorem k_X2_nextEvent_46 : Cond.fieldLink RX2 46 "DaySimulate$Play" "units" "I" ∈ wsX2_nextEvent := by decide +kernel
theorem k_X2_nextEvent_75 : Cond.constant RX2 75 (2147483647 : Int32) ∈ wsX2_nextEvent := by decide +kernel
theorem in_X2_nextEvent_X0 : ∀ w ∈ wsX00, w ∈ wsX2_nextEvent := by decide +kernel
theorem in_X2_nextEvent_X2 : ∀ w ∈ wsX20, w ∈ wsX2_nextEvent := by decide +kernel
set_option maxHeartbeats 4000000 in
set_option maxRecDepth 100000 in
theorem lp_X2_nextEvent_5 {l : Launch} {p : Program} {e : Env} {s : State} {m : MethodId} {args : Array Value} {below : List Frame} {meth : Method} {c : Code} {E : En} {o : Int64} {res : Int32 × St} (C : Cx p c cX2_nextEvent 4 s m args wsX2_nextEvent RX2 E) (hr : meth.sig.returnType = (some .int)) (hlocks : meth.locks = false) (b1 : Int32) (K49 : Int32 → St → Option (Int32 × St)) (hK49 : ∀ (u2 : Int32) (σ : St) (H : Heap) (locs : List Loc) (ls : Array Slot), K49 u2 σ = some res → Iv E (AA E s.heap.size) s.heap o σ H locs → lv_has ls 4 [(0, .ref (ad E 13)), (1, .int b1), (2, .int u2)] → WW_X2_nextEvent p l e s m args below meth c E o res H locs 0 0 (F0 m 49 ls [])) :
    ∀ (n : Nat) (v2 : Int32) (v3 : Int32) (σ : St) (H : Heap) (locs : List Loc) (ls : Array Slot), f_X2_nextEvent_L5 b1 K49 n v2 v3 σ = some res → Iv E (AA E s.heap.size) s.heap o σ H locs → lv_has ls 4 [(0, .ref (ad E 13)), (1, .int b1), (2, .int v2), (3, .int v3)] → WW_X2_nextEvent p l e s m args below meth c E o res H locs 0 0 (F0 m 5 ls []) := by
  have hx := C.1.1
  have hb := C.1.2.1
  intro n
  induction n with
  | zero => intro v2 v3 σ H locs ls hf _ _; cases (show (none : Option (Int32 × St)) = some res from hf)
  | succ n ih =>
    intro v2 v3 σ H locs ls hf I hl
    rw [f_X2_nextEvent_L5] at hf
    refine lv_iload_n hx hb dX2_nextEvent_5 rfl (lv_at hl 3 rfl) ?_
    refine lv_aload_n hx hb dX2_nextEvent_6 rfl (lv_at hl 0 rfl) ?_
    refine g_get (k := 13) (v := .ref (ad E 34)) C I (by decide) (gk_13 E o _) rfl in_X2_nextEvent_X2 0 (by decide) (C.1.2.2.2.2 _ k_X2_nextEvent_12) rfl dX2_nextEvent_7 ?_
    refine g_get (k := 34) (v := .int (σ 34 4)) C I (by decide) (gk_34 E o _) rfl in_X2_nextEvent_X0 4 (by decide) (C.1.2.2.2.2 _ k_X2_nextEvent_53) rfl dX2_nextEvent_10 ?_
    refine lv_icmp_ge (tgt := 49) hx hb dX2_nextEvent_13 (by decide) (fun c_1 => ?_) (fun c_1 => ?_)
    · have hf := if_t hf c_1
      exact hK49 v2 σ H locs ls hf I (lv_sub hl [0, 1, 2] rfl)
    · have hf := if_f hf c_1
      refine lv_aload_n hx hb dX2_nextEvent_16 rfl (lv_at hl 0 rfl) ?_
      refine g_get (k := 13) (v := .ref (ad E 34)) C I (by decide) (gk_13 E o _) rfl in_X2_nextEvent_X2 0 (by decide) (C.1.2.2.2.2 _ k_X2_nextEvent_12) rfl dX2_nextEvent_17 ?_
      refine g_get (k := 34) (v := .ref (ad E 35)) C I (by decide) (gk_34 E o _) rfl in_X2_nextEvent_X0 0 (by decide) (C.1.2.2.2.2 _ k_X2_nextEvent_113) rfl dX2_nextEvent_20 ?_
      refine lv_iload_n hx hb dX2_nextEvent_23 rfl (lv_at hl 3 rfl) ?_
      obtain ⟨h_2, hf⟩ := ck_some hf
      refine g_iald (k := 35) C I (by decide) (gk_35 E o) (ixb_in h_2) dX2_nextEvent_24 ?_
      refine lv_iload_n hx hb dX2_nextEvent_25 rfl (lv_at hl 1 rfl) ?_
      refine lv_icmp_le (tgt := 43) hx hb dX2_nextEvent_26 (by decide) (fun c_3 => ?_) (fun c_3 => ?_)
      · have hf := if_t hf c_3
        obtain ⟨x_4, ex_4⟩ : ∃ y : Int32, y = (v3 + (1 : Int32)) := ⟨_, rfl⟩
        have hf := lt_at hf ex_4
        refine lv_iinc (v := x_4) (lv' := [(3, .int x_4), (0, .ref (ad E 13)), (1, .int b1), (2, .int v2)]) hx hb dX2_nextEvent_43 hl (k := 3) rfl (by rw [ex_4]; rfl) (by decide) rfl (fun ls hl => ?_)
        refine lv_goto (tgt := 5) hx hb dX2_nextEvent_46 (by decide) ?_
        exact ih v2 x_4 σ H locs ls hf I (lv_sub hl [1, 2, 3, 0] rfl)
      · have hf := if_f hf c_3
        refine lv_iload_n hx hb dX2_nextEvent_29 rfl (lv_at hl 2 rfl) ?_
        refine lv_aload_n hx hb dX2_nextEvent_30 rfl (lv_at hl 0 rfl) ?_
        refine g_get (k := 13) (v := .ref (ad E 34)) C I (by decide) (gk_13 E o _) rfl in_X2_nextEvent_X2 0 (by decide) (C.1.2.2.2.2 _ k_X2_nextEvent_12) rfl dX2_nextEvent_31 ?_
        refine g_get (k := 34) (v := .ref (ad E 35)) C I (by decide) (gk_34 E o _) rfl in_X2_nextEvent_X0 0 (by decide) (C.1.2.2.2.2 _ k_X2_nextEvent_113) rfl dX2_nextEvent_34 ?_
        refine lv_iload_n hx hb dX2_nextEvent_37 rfl (lv_at hl 3 rfl) ?_
        obtain ⟨h_5, hf⟩ := ck_some hf
        refine g_iald (k := 35) C I (by decide) (gk_35 E o) (ixb_in h_5) dX2_nextEvent_38 ?_
        refine va_mmin hx hb (by rw [C.1.2.2.1]; exact hl.1.symm) C.1.2.2.2.1 (C.1.2.2.2.2 _ k_X2_nextEvent_88) (C.1.2.2.2.2 _ k_X2_nextEvent_static_min) (C.1.2.2.2.2 _ k_X2_nextEvent_iniMath) (C.1.2.2.2.2 _ k_X2_nextEvent_code_min) (Nat.le_of_ble_eq_true rfl) (Nat.le_of_ble_eq_true rfl) (Nat.le_of_ble_eq_true rfl) (Nat.le_of_ble_eq_true rfl) dX2_nextEvent_39 ?_
        refine lv_topi (fun x_6 ex_6 => ?_)
        have hf := lt_at hf ex_6
        refine lv_istore_n (lv' := [(2, .int x_6), (0, .ref (ad E 13)), (1, .int b1), (3, .int v3)]) hx hb dX2_nextEvent_42 rfl hl (by decide) rfl (fun ls hl => ?_)
        obtain ⟨x_7, ex_7⟩ : ∃ y : Int32, y = (v3 + (1 : Int32)) := ⟨_, rfl⟩
        have hf := lt_at hf ex_7
        refine lv_iinc (v := x_7) (lv' := [(3, .int x_7), (2, .int x_6), (0, .ref (ad E 13)), (1, .int b1)]) hx hb dX2_nextEvent_43 hl (k := 3) rfl (by rw [ex_7]; rfl) (by decide) rfl (fun ls hl => ?_)
        refine lv_goto (tgt := 5) hx hb dX2_nextEvent_46 (by decide) ?_
        exact ih x_6 x_7 σ H locs ls hf I (lv_sub hl [2, 3, 1, 0] rfl)
set_option maxHeartbeats 4000000 in
set_option maxRecDepth 100000 in
theorem lp_X2_nextEvent_51 {l : Launch} {p : Program} {e : Env} {s : State} {m : MethodId} {args : Array Value} {below : List Frame} {meth : Method} {c : Code} {E : En} {o : Int64} {res : Int32 × St} (C : Cx p c cX2_nextEvent 4 s m args wsX2_nextEvent RX2 E) (hr : meth.sig.returnType = (some .int)) (hlocks : meth.locks = false) (b1 : Int32) (K86 : Int32 → St → Option (Int32 × St)) (hK86 : ∀ (u2 : Int32) (σ : St) (H : Heap) (locs : List Loc) (ls : Array Slot), K86 u2 σ = some res → Iv E (AA E s.heap.size) s.heap o σ H locs → lv_has ls 4 [(2, .int u2)] → WW_X2_nextEvent p l e s m args below meth c E o res H locs 0 0 (F0 m 86 ls [])) :
    ∀ (n : Nat) (v2 : Int32) (v3 : Int32) (σ : St) (H : Heap) (locs : List Loc) (ls : Array Slot), f_X2_nextEvent_L51 b1 K86 n v2 v3 σ = some res → Iv E (AA E s.heap.size) s.heap o σ H locs → lv_has ls 4 [(0, .ref (ad E 13)), (1, .int b1), (2, .int v2), (3, .int v3)] → WW_X2_nextEvent p l e s m args below meth c E o res H locs 0 0 (F0 m 51 ls []) := by
  have hx := C.1.1
  have hb := C.1.2.1
  intro n
  induction n with
  | zero => intro v2 v3 σ H locs ls hf _ _; cases (show (none : Option (Int32 × St)) = some res from hf)
  | succ n ih =>
    intro v2 v3 σ H locs ls hf I hl
    rw [f_X2_nextEvent_L51] at hf
    refine lv_iload_n hx hb dX2_nextEvent_51 rfl (lv_at hl 3 rfl) ?_
    refine lv_aload_n hx hb dX2_nextEvent_52 rfl (lv_at hl 0 rfl) ?_
    refine g_get (k := 13) (v := .int (σ 13 9)) C I (by decide) (gk_13 E o _) rfl in_X2_nextEvent_X2 9 (by decide) (C.1.2.2.2.2 _ k_X2_nextEvent_46) rfl dX2_nextEvent_53 ?_
    refine lv_icmp_ge (tgt := 86) hx hb dX2_nextEvent_56 (by decide) (fun c_10 => ?_) (fun c_10 => ?_)
    · have hf := if_t hf c_10
      exact hK86 v2 σ H locs ls hf I (lv_sub hl [2] rfl)
    · have hf := if_f hf c_10
      refine lv_aload_n hx hb dX2_nextEvent_59 rfl (lv_at hl 0 rfl) ?_
      refine g_get (k := 13) (v := .ref (ad E 32)) C I (by decide) (gk_13 E o _) rfl in_X2_nextEvent_X2 7 (by decide) (C.1.2.2.2.2 _ k_X2_nextEvent_40) rfl dX2_nextEvent_60 ?_
      refine lv_iload_n hx hb dX2_nextEvent_63 rfl (lv_at hl 3 rfl) ?_
      obtain ⟨h_11, hf⟩ := ck_some hf
      refine g_iald (k := 32) C I (by decide) (gk_32 E o) (ixb_in h_11) dX2_nextEvent_64 ?_
      refine lv_iload_n hx hb dX2_nextEvent_65 rfl (lv_at hl 1 rfl) ?_
      refine lv_icmp_le (tgt := 80) hx hb dX2_nextEvent_66 (by decide) (fun c_12 => ?_) (fun c_12 => ?_)
      · have hf := if_t hf c_12
        obtain ⟨x_13, ex_13⟩ : ∃ y : Int32, y = (v3 + (1 : Int32)) := ⟨_, rfl⟩
        have hf := lt_at hf ex_13
        refine lv_iinc (v := x_13) (lv' := [(3, .int x_13), (0, .ref (ad E 13)), (1, .int b1), (2, .int v2)]) hx hb dX2_nextEvent_80 hl (k := 3) rfl (by rw [ex_13]; rfl) (by decide) rfl (fun ls hl => ?_)
        refine lv_goto (tgt := 51) hx hb dX2_nextEvent_83 (by decide) ?_
        exact ih v2 x_13 σ H locs ls hf I (lv_sub hl [1, 2, 3, 0] rfl)
      · have hf := if_f hf c_12
        refine lv_iload_n hx hb dX2_nextEvent_69 rfl (lv_at hl 2 rfl) ?_
        refine lv_aload_n hx hb dX2_nextEvent_70 rfl (lv_at hl 0 rfl) ?_
        refine g_get (k := 13) (v := .ref (ad E 32)) C I (by decide) (gk_13 E o _) rfl in_X2_nextEvent_X2 7 (by decide) (C.1.2.2.2.2 _ k_X2_nextEvent_40) rfl dX2_nextEvent_71 ?_
        refine lv_iload_n hx hb dX2_nextEvent_74 rfl (lv_at hl 3 rfl) ?_
        obtain ⟨h_14, hf⟩ := ck_some hf
        refine g_iald (k := 32) C I (by decide) (gk_32 E o) (ixb_in h_14) dX2_nextEvent_75 ?_
        refine va_mmin hx hb (by rw [C.1.2.2.1]; exact hl.1.symm) C.1.2.2.2.1 (C.1.2.2.2.2 _ k_X2_nextEvent_88) (C.1.2.2.2.2 _ k_X2_nextEvent_static_min) (C.1.2.2.2.2 _ k_X2_nextEvent_iniMath) (C.1.2.2.2.2 _ k_X2_nextEvent_code_min) (Nat.le_of_ble_eq_true rfl) (Nat.le_of_ble_eq_true rfl) (Nat.le_of_ble_eq_true rfl) (Nat.le_of_ble_eq_true rfl) dX2_nextEvent_76 ?_
        refine lv_topi (fun x_15 ex_15 => ?_)
        have hf := lt_at hf ex_15
        refine lv_istore_n (lv' := [(2, .int x_15), (0, .ref (ad E 13)), (1, .int b1), (3, .int v3)]) hx hb dX2_nextEvent_79 rfl hl (by decide) rfl (fun ls hl => ?_)
        obtain ⟨x_16, ex_16⟩ : ∃ y : Int32, y = (v3 + (1 : Int32)) := ⟨_, rfl⟩
        have hf := lt_at hf ex_16
        refine lv_iinc (v := x_16) (lv' := [(3, .int x_16), (2, .int x_15), (0, .ref (ad E 13)), (1, .int b1)]) hx hb dX2_nextEvent_80 hl (k := 3) rfl (by rw [ex_16]; rfl) (by decide) rfl (fun ls hl => ?_)
        refine lv_goto (tgt := 51) hx hb dX2_nextEvent_83 (by decide) ?_
        exact ih x_15 x_16 σ H locs ls hf I (lv_sub hl [2, 3, 1, 0] rfl)
set_option maxHeartbeats 4000000 in
set_option maxRecDepth 100000 in
theorem c_X2_nextEvent (l : Launch) (E : En) (o : Int64) (a1 : Int32) (σ : St) {res : Int32 × St} (hf : f_X2_nextEvent a1 σ = some res) : CI l yX2_nextEvent wsX2_nextEvent rm_X2_nextEvent E [.ref (ad E 13), .int a1] o σ res.1 res.2 := by
  intro sz
  refine Met.ofW (cc := cX2_nextEvent) (maxL := 4) (ret := (some .int)) (by decide) rfl ?_
  intro p e s m args below meth c s₁ B hml hv
  obtain ⟨rfl, hv⟩ := hv
  obtain ⟨rfl, hK, I⟩ := hv.start
  have C : Cx p c cX2_nextEvent 4 s m _ wsX2_nextEvent RX2 E := ⟨⟨B.exec, B.bytes, hml, findClass_of_methodNamed B.named, atoms_spec (ws := wsX2_nextEvent) B.pre⟩, hK⟩
  have hx := C.1.1
  have hb := C.1.2.1
  have hr := B.returns
  have hlocks := B.notSynchronized
  clear hv
  have hl := lv_entry ([.ref (ad E 13), .int a1]) (n := 4) (Nat.le_of_ble_eq_true rfl)
  rw [lg_entry_eq]
  generalize (lg_sl ([.ref (ad E 13), .int a1]) ++ List.replicate (4 - (lg_sl ([.ref (ad E 13), .int a1])).length) Slot.unset).toArray = ls at hl ⊢
  have hl : lv_has ls 4 [(0, .ref (ad E 13)), (1, .int a1)] := hl
  generalize ([.ref (ad E 13), .int a1] : List Value).toArray = args at C ⊢
  refine g_begin I (fun H locs I => ?_)
  rw [f_X2_nextEvent] at hf
  refine lv_ldc (v := (2147483647 : Int32)) hx hb C.1.2.2.2.1 (C.1.2.2.2.2 _ k_X2_nextEvent_75) dX2_nextEvent_0 ?_
  refine lv_istore_n (lv' := [(2, .int (2147483647 : Int32)), (0, .ref (ad E 13)), (1, .int a1)]) hx hb dX2_nextEvent_2 rfl hl (by decide) rfl (fun ls hl => ?_)
  refine lv_iconst (v := (0 : Int32)) hx hb dX2_nextEvent_3 (by decide) ?_
  refine lv_istore_n (lv' := [(3, .int (0 : Int32)), (2, .int (2147483647 : Int32)), (0, .ref (ad E 13)), (1, .int a1)]) hx hb dX2_nextEvent_4 rfl hl (by decide) rfl (fun ls hl => ?_)
  refine lp_X2_nextEvent_5 C hr hlocks a1 _ ?_ _ (2147483647 : Int32) (0 : Int32) σ H locs ls hf I (lv_sub hl [2, 3, 1, 0] rfl)
  · intro y_8 σ_9 H locs ls hf I hl
    refine lv_iconst (v := (0 : Int32)) hx hb dX2_nextEvent_49 (by decide) ?_
    refine lv_istore_n (lv' := [(3, .int (0 : Int32)), (0, .ref (ad E 13)), (1, .int a1), (2, .int y_8)]) hx hb dX2_nextEvent_50 rfl hl (by decide) rfl (fun ls hl => ?_)
    refine lp_X2_nextEvent_51 C hr hlocks a1 _ ?_ _ y_8 (0 : Int32) σ_9 H locs ls hf I (lv_sub hl [1, 2, 3, 0] rfl)
    · intro y_17 σ_18 H locs ls hf I hl
      refine lv_iload_n hx hb dX2_nextEvent_86 rfl (lv_at hl 0 rfl) ?_
      exact g_iret C I hr hlocks hf dX2_nextEvent_87
abbrev rm_X2_isAnyFree : Room := { frames := 1, cells := 0, slots := 0, locals := 22 }
abbrev WW_X2_isAnyFree (p : Program) (l : Launch) (e : Env) (s : State) (m : MethodId) (args : Array Value) (below : List Frame) (meth : Method) (c : Code) (E : En) (o : Int64) (res : Int32 × St) (H : Heap) (locs : List Loc) (cells slots : Nat) (g : JFrame) : Prop := W p l e (headSpec wsX2_isAnyFree rm_X2_isAnyFree).room s m args below meth c H locs cells slots (MQ below (Qi E s.heap.size o res.1 res.2) args s 0 0 (AA E s.heap.size)) g
theorem k_X2_isAnyFree_46 : Cond.fieldLink RX2 46 "DaySimulate$Play" "units" "I" ∈ wsX2_isAnyFree := by decide +kernel
theorem in_X2_isAnyFree_X2 : ∀ w ∈ wsX20, w ∈ wsX2_isAnyFree := by decide +kernel
set_option maxHeartbeats 4000000 in
set_option maxRecDepth 100000 in
theorem lp_X2_isAnyFree_2 {l : Launch} {p : Program} {e : Env} {s : State} {m : MethodId} {args : Array Value} {below : List Frame} {meth : Method} {c : Code} {E : En} {o : Int64} {res : Int32 × St} (C : Cx p c cX2_isAnyFree 3 s m args wsX2_isAnyFree RX2 E) (hr : meth.sig.returnType = (some .boolean)) (hlocks : meth.locks = false) (b1 : Int32) (K19 : St → Option (Int32 × St)) (hK19 : ∀  (σ : St) (H : Heap) (locs : List Loc) (ls : Array Slot), K19 σ = some res → Iv E (AA E s.heap.size) s.heap o σ H locs → lv_has ls 3 [] → WW_X2_isAnyFree p l e s m args below meth c E o res H locs 0 0 (F0 m 19 ls [])) (K27 : St → Option (Int32 × St)) (hK27 : ∀  (σ : St) (H : Heap) (locs : List Loc) (ls : Array Slot), K27 σ = some res → Iv E (AA E s.heap.size) s.heap o σ H locs → lv_has ls 3 [] → WW_X2_isAnyFree p l e s m args below meth c E o res H locs 0 0 (F0 m 27 ls [])) :
    ∀ (n : Nat) (v2 : Int32) (σ : St) (H : Heap) (locs : List Loc) (ls : Array Slot), f_X2_isAnyFree_L2 b1 K19 K27 n v2 σ = some res → Iv E (AA E s.heap.size) s.heap o σ H locs → lv_has ls 3 [(0, .ref (ad E 13)), (1, .int b1), (2, .int v2)] → WW_X2_isAnyFree p l e s m args below meth c E o res H locs 0 0 (F0 m 2 ls []) := by
  have hx := C.1.1
  have hb := C.1.2.1
  intro n
  induction n with
  | zero => intro v2 σ H locs ls hf _ _; cases (show (none : Option (Int32 × St)) = some res from hf)
  | succ n ih =>
    intro v2 σ H locs ls hf I hl
    rw [f_X2_isAnyFree_L2] at hf
    refine lv_iload_n hx hb dX2_isAnyFree_2 rfl (lv_at hl 2 rfl) ?_
    refine lv_aload_n hx hb dX2_isAnyFree_3 rfl (lv_at hl 0 rfl) ?_
    refine g_get (k := 13) (v := .int (σ 13 9)) C I (by decide) (gk_13 E o _) rfl in_X2_isAnyFree_X2 9 (by decide) (C.1.2.2.2.2 _ k_X2_isAnyFree_46) rfl dX2_isAnyFree_4 ?_
    refine lv_icmp_ge (tgt := 27) hx hb dX2_isAnyFree_7 (by decide) (fun c_1 => ?_) (fun c_1 => ?_)
    · have hf := if_t hf c_1
      exact hK27  σ H locs ls hf I (lv_sub hl [] rfl)
    · have hf := if_f hf c_1
      refine lv_aload_n hx hb dX2_isAnyFree_10 rfl (lv_at hl 0 rfl) ?_
      refine lv_iload_n hx hb dX2_isAnyFree_11 rfl (lv_at hl 2 rfl) ?_
      refine lv_iload_n hx hb dX2_isAnyFree_12 rfl (lv_at hl 1 rfl) ?_
      obtain ⟨r_2, σ_3, hg_4, hf⟩ := bd_some hf
      refine g_cvi (av := [.int v2, .int b1]) (rest := []) (k := 13) C I AA.new (c_X2_isFree l E o v2 b1 σ hg_4) (cwV 2 C.1.2.2.2.2 gX2_isAnyFree_X2_isFree rfl rfl rfl (by decide +kernel) ⟨Nat.le_of_ble_eq_true rfl, Nat.le_of_ble_eq_true rfl⟩) (by decide) (gk_13 E o _) rfl rfl rfl hl.1 rfl (Nat.le_of_ble_eq_true rfl) ⟨Nat.le_of_ble_eq_true rfl, Nat.le_of_ble_eq_true rfl⟩ dX2_isAnyFree_13 (fun H locs I => ?_)
      refine lv_if_eq (tgt := 21) hx hb dX2_isAnyFree_16 (by decide) (fun c_5 => ?_) (fun c_5 => ?_)
      · have hf := if_t hf c_5
        obtain ⟨x_6, ex_6⟩ : ∃ y : Int32, y = (v2 + (1 : Int32)) := ⟨_, rfl⟩
        have hf := lt_at hf ex_6
        refine lv_iinc (v := x_6) (lv' := [(2, .int x_6), (0, .ref (ad E 13)), (1, .int b1)]) hx hb dX2_isAnyFree_21 hl (k := 2) rfl (by rw [ex_6]; rfl) (by decide) rfl (fun ls hl => ?_)
        refine lv_goto (tgt := 2) hx hb dX2_isAnyFree_24 (by decide) ?_
        exact ih x_6 σ_3 H locs ls hf I (lv_sub hl [1, 2, 0] rfl)
      · have hf := if_f hf c_5
        exact hK19  σ_3 H locs ls hf I (lv_sub hl [] rfl)
set_option maxHeartbeats 4000000 in
set_option maxRecDepth 100000 in
theorem c_X2_isAnyFree (l : Launch) (E : En) (o : Int64) (a1 : Int32) (σ : St) {res : Int32 × St} (hf : f_X2_isAnyFree a1 σ = some res) : CI l yX2_isAnyFree wsX2_isAnyFree rm_X2_isAnyFree E [.ref (ad E 13), .int a1] o σ res.1 res.2 := by
  intro sz
  refine Met.ofW (cc := cX2_isAnyFree) (maxL := 3) (ret := (some .boolean)) (by decide) rfl ?_
  intro p e s m args below meth c s₁ B hml hv
  obtain ⟨rfl, hv⟩ := hv
  obtain ⟨rfl, hK, I⟩ := hv.start
  have C : Cx p c cX2_isAnyFree 3 s m _ wsX2_isAnyFree RX2 E := ⟨⟨B.exec, B.bytes, hml, findClass_of_methodNamed B.named, atoms_spec (ws := wsX2_isAnyFree) B.pre⟩, hK⟩
  have hx := C.1.1
  have hb := C.1.2.1
  have hr := B.returns
  have hlocks := B.notSynchronized
  clear hv
  have hl := lv_entry ([.ref (ad E 13), .int a1]) (n := 3) (Nat.le_of_ble_eq_true rfl)
  rw [lg_entry_eq]
  generalize (lg_sl ([.ref (ad E 13), .int a1]) ++ List.replicate (3 - (lg_sl ([.ref (ad E 13), .int a1])).length) Slot.unset).toArray = ls at hl ⊢
  have hl : lv_has ls 3 [(0, .ref (ad E 13)), (1, .int a1)] := hl
  generalize ([.ref (ad E 13), .int a1] : List Value).toArray = args at C ⊢
  refine g_begin I (fun H locs I => ?_)
  rw [f_X2_isAnyFree] at hf
  refine lv_iconst (v := (0 : Int32)) hx hb dX2_isAnyFree_0 (by decide) ?_
  refine lv_istore_n (lv' := [(2, .int (0 : Int32)), (0, .ref (ad E 13)), (1, .int a1)]) hx hb dX2_isAnyFree_1 rfl hl (by decide) rfl (fun ls hl => ?_)
  refine lp_X2_isAnyFree_2 C hr hlocks a1 _ ?_ _ ?_ _ (0 : Int32) σ H locs ls hf I (lv_sub hl [1, 2, 0] rfl)
  · intro  σ_7 H locs ls hf I hl
    refine lv_iconst (v := (1 : Int32)) hx hb dX2_isAnyFree_19 (by decide) ?_
    exact g_zret C I hr hlocks rfl hf dX2_isAnyFree_20
  · intro  σ_8 H locs ls hf I hl
    refine lv_iconst (v := (0 : Int32)) hx hb dX2_isAnyFree_27 (by decide) ?_
    exact g_zret C I hr hlocks rfl hf dX2_isAnyFree_28
abbrev rm_X2_playOut : Room := { frames := 3, cells := 0, slots := 0, locals := 71 }
abbrev WW_X2_playOut (p : Program) (l : Launch) (e : Env) (s : State) (m : MethodId) (args : Array Value) (below : List Frame) (meth : Method) (c : Code) (E : En) (o : Int64) (res : Int32 × St) (H : Heap) (locs : List Loc) (cells slots : Nat) (g : JFrame) : Prop := W p l e (headSpec wsX2_playOut rm_X2_playOut).room s m args below meth c H locs cells slots (MQ below (Qv E s.heap.size o res.2) args s 0 0 (AA E s.heap.size)) g
theorem k_X2_playOut_50 : Cond.fieldLink RX2 50 "DaySimulate$Play" "missedMinutes" "I" ∈ wsX2_playOut := by decide +kernel
theorem k_X2_playOut_94 : Cond.methodLink RX2 94 Lib.Math.max.name ∈ wsX2_playOut := by decide +kernel
theorem k_X2_playOut_static_max : Cond.static Lib.Math.max.name ∈ wsX2_playOut := by decide +kernel
theorem k_X2_playOut_iniMath : Cond.initialized "java/lang/Math" ∈ wsX2_playOut := by decide +kernel
theorem k_X2_playOut_code_max : Cond.code Lib.Math.max.name Lib.Math.max.code 2 (some .int) ∈ wsX2_playOut := by decide +kernel
theorem k_X2_playOut_88 : Cond.methodLink RX2 88 Lib.Math.min.name ∈ wsX2_playOut := by decide +kernel
theorem k_X2_playOut_static_min : Cond.static Lib.Math.min.name ∈ wsX2_playOut := by decide +kernel
theorem k_X2_playOut_code_min : Cond.code Lib.Math.min.name Lib.Math.min.code 2 (some .int) ∈ wsX2_playOut := by decide +kernel
theorem k_X2_playOut_75 : Cond.constant RX2 75 (2147483647 : Int32) ∈ wsX2_playOut := by decide +kernel
theorem in_X2_playOut_X2 : ∀ w ∈ wsX20, w ∈ wsX2_playOut := by decide +kernel
set_option maxHeartbeats 4000000 in
set_option maxRecDepth 100000 in
theorem lp_X2_playOut_4 {l : Launch} {p : Program} {e : Env} {s : State} {m : MethodId} {args : Array Value} {below : List Frame} {meth : Method} {c : Code} {E : En} {o : Int64} {res : Int32 × St} (C : Cx p c cX2_playOut 4 s m args wsX2_playOut RX2 E) (hr : meth.sig.returnType = none) (hlocks : meth.locks = false)  (K65 : St → Option (Int32 × St)) (hK65 : ∀  (σ : St) (H : Heap) (locs : List Loc) (ls : Array Slot), K65 σ = some res → Iv E (AA E s.heap.size) s.heap o σ H locs → lv_has ls 4 [] → WW_X2_playOut p l e s m args below meth c E o res H locs 0 0 (F0 m 65 ls [])) :
    ∀ (n : Nat) (v1 : Int32) (v2 : Int32) (σ : St) (H : Heap) (locs : List Loc) (ls : Array Slot), f_X2_playOut_L4 K65 n v1 v2 σ = some res → Iv E (AA E s.heap.size) s.heap o σ H locs → lv_has ls 4 [(0, .ref (ad E 13)), (1, .int v1), (2, .int v2)] → WW_X2_playOut p l e s m args below meth c E o res H locs 0 0 (F0 m 4 ls []) := by
  have hx := C.1.1
  have hb := C.1.2.1
  intro n
  induction n with
  | zero => intro v1 v2 σ H locs ls hf _ _; cases (show (none : Option (Int32 × St)) = some res from hf)
  | succ n ih =>
    intro v1 v2 σ H locs ls hf I hl
    rw [f_X2_playOut_L4] at hf
    refine lv_iload_n hx hb dX2_playOut_4 rfl (lv_at hl 2 rfl) ?_
    refine lv_bipush (v := (121 : Int32)) hx hb dX2_playOut_5 (by decide) ?_
    refine lv_icmp_ge (tgt := 65) hx hb dX2_playOut_7 (by decide) (fun c_1 => ?_) (fun c_1 => ?_)
    · have hf := if_t hf c_1
      exact hK65  σ H locs ls hf I (lv_sub hl [] rfl)
    · have hf := if_f hf c_1
      refine lv_iload_n hx hb dX2_playOut_10 rfl (lv_at hl 1 rfl) ?_
      refine lv_ldc (v := (2147483647 : Int32)) hx hb C.1.2.2.2.1 (C.1.2.2.2.2 _ k_X2_playOut_75) dX2_playOut_11 ?_
      refine lv_icmp_ge (tgt := 65) hx hb dX2_playOut_13 (by decide) (fun c_2 => ?_) (fun c_2 => ?_)
      · have hf := if_t hf c_2
        exact hK65  σ H locs ls hf I (lv_sub hl [] rfl)
      · have hf := if_f hf c_2
        refine lv_aload_n hx hb dX2_playOut_16 rfl (lv_at hl 0 rfl) ?_
        refine lv_iload_n hx hb dX2_playOut_17 rfl (lv_at hl 1 rfl) ?_
        obtain ⟨r_3, σ_4, hg_5, hf⟩ := bd_some hf
        refine g_cvv (av := [.int v1]) (rest := []) (k := 13) C I AA.new (c_X2_sendUnits l E o v1 σ hg_5) (cwV 1 C.1.2.2.2.2 gX2_playOut_X2_sendUnits rfl rfl rfl (by decide +kernel) ⟨Nat.le_of_ble_eq_true rfl, Nat.le_of_ble_eq_true rfl⟩) (by decide) (gk_13 E o _) rfl rfl rfl hl.1 rfl (Nat.le_of_ble_eq_true rfl) ⟨Nat.le_of_ble_eq_true rfl, Nat.le_of_ble_eq_true rfl⟩ dX2_playOut_18 (fun H locs I => ?_)
        refine lv_aload_n hx hb dX2_playOut_21 rfl (lv_at hl 0 rfl) ?_
        refine lv_iload_n hx hb dX2_playOut_22 rfl (lv_at hl 1 rfl) ?_
        obtain ⟨r_6, σ_7, hg_8, hf⟩ := bd_some hf
        refine g_cvi (av := [.int v1]) (rest := []) (k := 13) C I AA.new (c_X2_nextEvent l E o v1 σ_4 hg_8) (cwV 1 C.1.2.2.2.2 gX2_playOut_X2_nextEvent rfl rfl rfl (by decide +kernel) ⟨Nat.le_of_ble_eq_true rfl, Nat.le_of_ble_eq_true rfl⟩) (by decide) (gk_13 E o _) rfl rfl rfl hl.1 rfl (Nat.le_of_ble_eq_true rfl) ⟨Nat.le_of_ble_eq_true rfl, Nat.le_of_ble_eq_true rfl⟩ dX2_playOut_23 (fun H locs I => ?_)
        refine lv_istore_n (lv' := [(3, .int r_6), (0, .ref (ad E 13)), (1, .int v1), (2, .int v2)]) hx hb dX2_playOut_26 rfl hl (by decide) rfl (fun ls hl => ?_)
        refine lv_aload_n hx hb dX2_playOut_27 rfl (lv_at hl 1 rfl) ?_
        refine lv_iload_n hx hb dX2_playOut_28 rfl (lv_at hl 2 rfl) ?_
        obtain ⟨r_9, σ_10, hg_11, hf⟩ := bd_some hf
        refine g_cvi (av := [.int v1]) (rest := []) (k := 13) C I AA.new (c_X2_isAnyFree l E o v1 σ_7 hg_11) (cwV 1 C.1.2.2.2.2 gX2_playOut_X2_isAnyFree rfl rfl rfl (by decide +kernel) ⟨Nat.le_of_ble_eq_true rfl, Nat.le_of_ble_eq_true rfl⟩) (by decide) (gk_13 E o _) rfl rfl rfl hl.1 rfl (Nat.le_of_ble_eq_true rfl) ⟨Nat.le_of_ble_eq_true rfl, Nat.le_of_ble_eq_true rfl⟩ dX2_playOut_29 (fun H locs I => ?_)
        refine lv_if_ne (tgt := 57) hx hb dX2_playOut_32 (by decide) (fun c_12 => ?_) (fun c_12 => ?_)
        · have hf := if_f hf c_12
          refine lv_iload_n hx hb dX2_playOut_57 rfl (lv_at hl 0 rfl) ?_
          refine lv_istore_n (lv' := [(1, .int r_6), (3, .int r_6), (0, .ref (ad E 13)), (2, .int v2)]) hx hb dX2_playOut_58 rfl hl (by decide) rfl (fun ls hl => ?_)
          obtain ⟨x_13, ex_13⟩ : ∃ y : Int32, y = (v2 + (1 : Int32)) := ⟨_, rfl⟩
          have hf := lt_at hf ex_13
          refine lv_iinc (v := x_13) (lv' := [(2, .int x_13), (1, .int r_6), (3, .int r_6), (0, .ref (ad E 13))]) hx hb dX2_playOut_59 hl (k := 3) rfl (by rw [ex_13]; rfl) (by decide) rfl (fun ls hl => ?_)
          refine lv_goto (tgt := 4) hx hb dX2_playOut_62 (by decide) ?_
          exact ih r_6 x_13 σ_10 H locs ls hf I (lv_sub hl [3, 1, 0] rfl)
        · have hf := if_t hf c_12
          refine lv_aload_n hx hb dX2_playOut_35 rfl (lv_at hl 1 rfl) ?_
          refine lv_dup hx hb dX2_playOut_36 rfl ?_
          refine g_get (k := 13) (v := .int (σ_10 13 10)) C I (by decide) (gk_13 E o _) rfl in_X2_playOut_X2 10 (by decide) (C.1.2.2.2.2 _ k_X2_playOut_50) rfl dX2_playOut_37 ?_
          refine lv_iconst (v := (0 : Int32)) hx hb dX2_playOut_40 (by decide) ?_
          refine lv_iload_n hx hb dX2_playOut_41 rfl (lv_at hl 0 rfl) ?_
          refine lv_sipush (v := (1440 : Int32)) hx hb dX2_playOut_42 (by decide) ?_
          refine va_mmin hx hb (by rw [C.1.2.2.1]; exact hl.1.symm) C.1.2.2.2.1 (C.1.2.2.2.2 _ k_X2_playOut_88) (C.1.2.2.2.2 _ k_X2_playOut_static_min) (C.1.2.2.2.2 _ k_X2_playOut_iniMath) (C.1.2.2.2.2 _ k_X2_playOut_code_min) (Nat.le_of_ble_eq_true rfl) (Nat.le_of_ble_eq_true rfl) (Nat.le_of_ble_eq_true rfl) (Nat.le_of_ble_eq_true rfl) dX2_playOut_45 ?_
          refine lv_topi (fun x_14 ex_14 => ?_)
          have hf := lt_at hf ex_14
          refine lv_iload_n hx hb dX2_playOut_48 rfl (lv_at hl 2 rfl) ?_
          refine lv_isub hx hb dX2_playOut_49 ?_
          refine va_mmax hx hb (by rw [C.1.2.2.1]; exact hl.1.symm) C.1.2.2.2.1 (C.1.2.2.2.2 _ k_X2_playOut_94) (C.1.2.2.2.2 _ k_X2_playOut_static_max) (C.1.2.2.2.2 _ k_X2_playOut_iniMath) (C.1.2.2.2.2 _ k_X2_playOut_code_max) (Nat.le_of_ble_eq_true rfl) (Nat.le_of_ble_eq_true rfl) (Nat.le_of_ble_eq_true rfl) (Nat.le_of_ble_eq_true rfl) dX2_playOut_50 ?_
          refine lv_topi (fun x_15 ex_15 => ?_)
          have hf := lt_at hf ex_15
          refine lv_iadd hx hb dX2_playOut_53 ?_
          refine g_put (k := 13) (v := ((σ_10 13 10) + x_15)) C I (by decide) (gk_13 E o) rfl in_X2_playOut_X2 tyX2 tyX2_ok nmX2 10 (by decide) (C.1.2.2.2.2 _ k_X2_playOut_50) rfl (by decide +kernel) (Nat.le_of_ble_eq_true rfl) rfl dX2_playOut_54 (fun H locs σ_16 eσ_16 I => ?_)
          have hf := lt_at hf eσ_16
          refine lv_iload_n hx hb dX2_playOut_57 rfl (lv_at hl 0 rfl) ?_
          refine lv_istore_n (lv' := [(1, .int r_6), (3, .int r_6), (0, .ref (ad E 13)), (2, .int v2)]) hx hb dX2_playOut_58 rfl hl (by decide) rfl (fun ls hl => ?_)
          obtain ⟨x_17, ex_17⟩ : ∃ y : Int32, y = (v2 + (1 : Int32)) := ⟨_, rfl⟩
          have hf := lt_at hf ex_17
          refine lv_iinc (v := x_17) (lv' := [(2, .int x_17), (1, .int r_6), (3, .int r_6), (0, .ref (ad E 13))]) hx hb dX2_playOut_59 hl (k := 3) rfl (by rw [ex_17]; rfl) (by decide) rfl (fun ls hl => ?_)
          refine lv_goto (tgt := 4) hx hb dX2_playOut_62 (by decide) ?_
          exact ih r_6 x_17 σ_16 H locs ls hf I (lv_sub hl [3, 1, 0] rfl)
set_option maxHeartbeats 4000000 in
set_option maxRecDepth 100000 in
theorem c_X2_playOut (l : Launch) (E : En) (o : Int64)  (σ : St) {res : Int32 × St} (hf : f_X2_playOut σ = some res) : CV l yX2_playOut wsX2_playOut rm_X2_playOut E [.ref (ad E 13)] o σ res.2 := by
  intro sz
  refine Met.ofW (cc := cX2_playOut) (maxL := 4) (ret := none) (by decide) rfl ?_
  intro p e s m args below meth c s₁ B hml hv
  obtain ⟨rfl, hv⟩ := hv
  obtain ⟨rfl, hK, I⟩ := hv.start
  have C : Cx p c cX2_playOut 4 s m _ wsX2_playOut RX2 E := ⟨⟨B.exec, B.bytes, hml, findClass_of_methodNamed B.named, atoms_spec (ws := wsX2_playOut) B.pre⟩, hK⟩
  have hx := C.1.1
  have hb := C.1.2.1
  have hr := B.returns
  have hlocks := B.notSynchronized
  clear hv
  have hl := lv_entry ([.ref (ad E 13)]) (n := 4) (Nat.le_of_ble_eq_true rfl)
  rw [lg_entry_eq]
  generalize (lg_sl ([.ref (ad E 13)]) ++ List.replicate (4 - (lg_sl ([.ref (ad E 13)])).length) Slot.unset).toArray = ls at hl ⊢
  have hl : lv_has ls 4 [(0, .ref (ad E 13))] := hl
  generalize ([.ref (ad E 13)] : List Value).toArray = args at C ⊢
  refine g_begin I (fun H locs I => ?_)
  rw [f_X2_playOut] at hf
  refine lv_iconst (v := (0 : Int32)) hx hb dX2_playOut_0 (by decide) ?_
  refine lv_istore_n (lv' := [(1, .int (0 : Int32)), (0, .ref (ad E 13))]) hx hb dX2_playOut_1 rfl hl (by decide) rfl (fun ls hl => ?_)
  refine lv_iconst (v := (0 : Int32)) hx hb dX2_playOut_2 (by decide) ?_
  refine lv_istore_n (lv' := [(2, .int (0 : Int32)), (1, .int (0 : Int32)), (0, .ref (ad E 13))]) hx hb dX2_playOut_3 rfl hl (by decide) rfl (fun ls hl => ?_)
  refine lp_X2_playOut_4 C hr hlocks _ ?_ _ (0 : Int32) (0 : Int32) σ H locs ls hf I (lv_sub hl [2, 1, 0] rfl)
  · intro  σ_18 H locs ls hf I hl
    exact g_vret C I hr hlocks hf dX2_playOut_65
abbrev rm_X2_delay : Room := { frames := 0, cells := 0, slots := 0, locals := 0 }
abbrev WW_X2_delay (p : Program) (l : Launch) (e : Env) (s : State) (m : MethodId) (args : Array Value) (below : List Frame) (meth : Method) (c : Code) (E : En) (o : Int64) (res : Int32 × St) (H : Heap) (locs : List Loc) (cells slots : Nat) (g : JFrame) : Prop := W p l e (headSpec wsX2_delay rm_X2_delay).room s m args below meth c H locs cells slots (MQ below (Qi E s.heap.size o res.1 res.2) args s 0 0 (AA E s.heap.size)) g
theorem k_X2_delay_113 : Cond.fieldLink RX2 113 "DaySimulate$Day" "minute" "[I" ∈ wsX2_delay := by decide +kernel
theorem k_X2_delay_12 : Cond.fieldLink RX2 12 "DaySimulate$Play" "day" "LDaySimulate$Day;" ∈ wsX2_delay := by decide +kernel
theorem k_X2_delay_25 : Cond.fieldLink RX2 25 "DaySimulate$Play" "arrival" "[I" ∈ wsX2_delay := by decide +kernel
theorem k_X2_delay_18 : Cond.fieldLink RX2 18 "DaySimulate$Play" "unitOf" "[I" ∈ wsX2_delay := by decide +kernel
theorem in_X2_delay_X0 : ∀ w ∈ wsX00, w ∈ wsX2_delay := by decide +kernel
theorem in_X2_delay_X2 : ∀ w ∈ wsX20, w ∈ wsX2_delay := by decide +kernel
set_option maxHeartbeats 4000000 in
set_option maxRecDepth 100000 in
theorem c_X2_delay (l : Launch) (E : En) (o : Int64) (a1 : Int32) (σ : St) {res : Int32 × St} (hf : f_X2_delay a1 σ = some res) : CI l yX2_delay wsX2_delay rm_X2_delay E [.ref (ad E 13), .int a1] o σ res.1 res.2 := by
  intro sz
  refine Met.ofW (cc := cX2_delay) (maxL := 2) (ret := (some .int)) (by decide) rfl ?_
  intro p e s m args below meth c s₁ B hml hv
  obtain ⟨rfl, hv⟩ := hv
  obtain ⟨rfl, hK, I⟩ := hv.start
  have C : Cx p c cX2_delay 2 s m _ wsX2_delay RX2 E := ⟨⟨B.exec, B.bytes, hml, findClass_of_methodNamed B.named, atoms_spec (ws := wsX2_delay) B.pre⟩, hK⟩
  have hx := C.1.1
  have hb := C.1.2.1
  have hr := B.returns
  have hlocks := B.notSynchronized
  clear hv
  have hl := lv_entry ([.ref (ad E 13), .int a1]) (n := 2) (Nat.le_of_ble_eq_true rfl)
  rw [lg_entry_eq]
  generalize (lg_sl ([.ref (ad E 13), .int a1]) ++ List.replicate (2 - (lg_sl ([.ref (ad E 13), .int a1])).length) Slot.unset).toArray = ls at hl ⊢
  have hl : lv_has ls 2 [(0, .ref (ad E 13)), (1, .int a1)] := hl
  generalize ([.ref (ad E 13), .int a1] : List Value).toArray = args at C ⊢
  refine g_begin I (fun H locs I => ?_)
  rw [f_X2_delay] at hf
  refine lv_aload_n hx hb dX2_delay_0 rfl (lv_at hl 0 rfl) ?_
  refine g_get (k := 13) (v := .ref (ad E 14)) C I (by decide) (gk_13 E o _) rfl in_X2_delay_X2 1 (by decide) (C.1.2.2.2.2 _ k_X2_delay_18) rfl dX2_delay_1 ?_
  refine lv_iload_n hx hb dX2_delay_4 rfl (lv_at hl 1 rfl) ?_
  obtain ⟨h_1, hf⟩ := ck_some hf
  refine g_iald (k := 14) C I (by decide) (gk_14 E o) (ixb_in h_1) dX2_delay_5 ?_
  refine lv_iconst (v := (-1 : Int32)) hx hb dX2_delay_6 (by decide) ?_
  refine lv_icmp_ne (tgt := 14) hx hb dX2_delay_7 (by decide) (fun c_2 => ?_) (fun c_2 => ?_)
  · have hf := if_f hf c_2
    refine lv_aload_n hx hb dX2_delay_14 rfl (lv_at hl 0 rfl) ?_
    refine g_get (k := 13) (v := .ref (ad E 16)) C I (by decide) (gk_13 E o _) rfl in_X2_delay_X2 3 (by decide) (C.1.2.2.2.2 _ k_X2_delay_25) rfl dX2_delay_15 ?_
    refine lv_iload_n hx hb dX2_delay_18 rfl (lv_at hl 1 rfl) ?_
    obtain ⟨h_3, hf⟩ := ck_some hf
    refine g_iald (k := 16) C I (by decide) (gk_16 E o) (ixb_in h_3) dX2_delay_19 ?_
    refine lv_aload_n hx hb dX2_delay_20 rfl (lv_at hl 0 rfl) ?_
    refine g_get (k := 13) (v := .ref (ad E 34)) C I (by decide) (gk_13 E o _) rfl in_X2_delay_X2 0 (by decide) (C.1.2.2.2.2 _ k_X2_delay_12) rfl dX2_delay_21 ?_
    refine g_get (k := 34) (v := .ref (ad E 35)) C I (by decide) (gk_34 E o _) rfl in_X2_delay_X0 0 (by decide) (C.1.2.2.2.2 _ k_X2_delay_113) rfl dX2_delay_24 ?_
    refine lv_iload_n hx hb dX2_delay_27 rfl (lv_at hl 1 rfl) ?_
    obtain ⟨h_4, hf⟩ := ck_some hf
    refine g_iald (k := 35) C I (by decide) (gk_35 E o) (ixb_in h_4) dX2_delay_28 ?_
    refine lv_isub hx hb dX2_delay_29 ?_
    exact g_iret C I hr hlocks hf dX2_delay_30
  · have hf := if_t hf c_2
    refine lv_iconst (v := (-1 : Int32)) hx hb dX2_delay_10 (by decide) ?_
    refine lv_goto (tgt := 30) hx hb dX2_delay_11 (by decide) ?_
    exact g_iret C I hr hlocks hf dX2_delay_30
abbrev rm_X2_isLate : Room := { frames := 1, cells := 0, slots := 0, locals := 21 }
abbrev WW_X2_isLate (p : Program) (l : Launch) (e : Env) (s : State) (m : MethodId) (args : Array Value) (below : List Frame) (meth : Method) (c : Code) (E : En) (o : Int64) (res : Int32 × St) (H : Heap) (locs : List Loc) (cells slots : Nat) (g : JFrame) : Prop := W p l e (headSpec wsX2_isLate rm_X2_isLate).room s m args below meth c H locs cells slots (MQ below (Qi E s.heap.size o res.1 res.2) args s 0 0 (AA E s.heap.size)) g
theorem k_X2_isLate_18 : Cond.fieldLink RX2 18 "DaySimulate$Play" "unitOf" "[I" ∈ wsX2_isLate := by decide +kernel
theorem in_X2_isLate_X2 : ∀ w ∈ wsX20, w ∈ wsX2_isLate := by decide +kernel
set_option maxHeartbeats 4000000 in
set_option maxRecDepth 100000 in
theorem c_X2_isLate (l : Launch) (E : En) (o : Int64) (a1 : Int32) (a2 : Int32) (σ : St) {res : Int32 × St} (hf : f_X2_isLate a1 a2 σ = some res) : CI l yX2_isLate wsX2_isLate rm_X2_isLate E [.ref (ad E 13), .int a1, .int a2] o σ res.1 res.2 := by
  intro sz
  refine Met.ofW (cc := cX2_isLate) (maxL := 3) (ret := (some .boolean)) (by decide) rfl ?_
  intro p e s m args below meth c s₁ B hml hv
  obtain ⟨rfl, hv⟩ := hv
  obtain ⟨rfl, hK, I⟩ := hv.start
  have C : Cx p c cX2_isLate 3 s m _ wsX2_isLate RX2 E := ⟨⟨B.exec, B.bytes, hml, findClass_of_methodNamed B.named, atoms_spec (ws := wsX2_isLate) B.pre⟩, hK⟩
  have hx := C.1.1
  have hb := C.1.2.1
  have hr := B.returns
  have hlocks := B.notSynchronized
  clear hv
  have hl := lv_entry ([.ref (ad E 13), .int a1, .int a2]) (n := 3) (Nat.le_of_ble_eq_true rfl)
  rw [lg_entry_eq]
  generalize (lg_sl ([.ref (ad E 13), .int a1, .int a2]) ++ List.replicate (3 - (lg_sl ([.ref (ad E 13), .int a1, .int a2])).length) Slot.unset).toArray = ls at hl ⊢
  have hl : lv_has ls 3 [(0, .ref (ad E 13)), (1, .int a1), (2, .int a2)] := hl
  generalize ([.ref (ad E 13), .int a1, .int a2] : List Value).toArray = args at C ⊢
  refine g_begin I (fun H locs I => ?_)
  rw [f_X2_isLate] at hf
  refine lv_aload_n hx hb dX2_isLate_0 rfl (lv_at hl 0 rfl) ?_
  refine g_get (k := 13) (v := .ref (ad E 14)) C I (by decide) (gk_13 E o _) rfl in_X2_isLate_X2 1 (by decide) (C.1.2.2.2.2 _ k_X2_isLate_18) rfl dX2_isLate_1 ?_
  refine lv_iload_n hx hb dX2_isLate_4 rfl (lv_at hl 1 rfl) ?_
  obtain ⟨h_1, hf⟩ := ck_some hf
  refine g_iald (k := 14) C I (by decide) (gk_14 E o) (ixb_in h_1) dX2_isLate_5 ?_
  refine lv_iconst (v := (-1 : Int32)) hx hb dX2_isLate_6 (by decide) ?_
  refine lv_icmp_eq (tgt := 19) hx hb dX2_isLate_7 (by decide) (fun c_2 => ?_) (fun c_2 => ?_)
  · have hf := if_t hf c_2
    refine lv_iconst (v := (1 : Int32)) hx hb dX2_isLate_19 (by decide) ?_
    refine lv_goto (tgt := 24) hx hb dX2_isLate_20 (by decide) ?_
    exact g_zret C I hr hlocks rfl hf dX2_isLate_24
  · have hf := if_f hf c_2
    refine lv_aload_n hx hb dX2_isLate_10 rfl (lv_at hl 0 rfl) ?_
    refine lv_iload_n hx hb dX2_isLate_11 rfl (lv_at hl 1 rfl) ?_
    obtain ⟨r_3, σ_4, hg_5, hf⟩ := bd_some hf
    refine g_cvi (av := [.int a1]) (rest := []) (k := 13) C I AA.new (c_X2_delay l E o a1 σ hg_5) (cwV 1 C.1.2.2.2.2 gX2_isLate_X2_delay rfl rfl rfl (by decide +kernel) ⟨Nat.le_of_ble_eq_true rfl, Nat.le_of_ble_eq_true rfl⟩) (by decide) (gk_13 E o _) rfl rfl rfl hl.1 rfl (Nat.le_of_ble_eq_true rfl) ⟨Nat.le_of_ble_eq_true rfl, Nat.le_of_ble_eq_true rfl⟩ dX2_isLate_12 (fun H locs I => ?_)
    refine lv_iload_n hx hb dX2_isLate_15 rfl (lv_at hl 2 rfl) ?_
    refine lv_icmp_le (tgt := 23) hx hb dX2_isLate_16 (by decide) (fun c_6 => ?_) (fun c_6 => ?_)
    · have hf := if_t hf c_6
      refine lv_iconst (v := (0 : Int32)) hx hb dX2_isLate_23 (by decide) ?_
      exact g_zret C I hr hlocks rfl hf dX2_isLate_24
    · have hf := if_f hf c_6
      refine lv_iconst (v := (1 : Int32)) hx hb dX2_isLate_19 (by decide) ?_
      refine lv_goto (tgt := 24) hx hb dX2_isLate_20 (by decide) ?_
      exact g_zret C I hr hlocks rfl hf dX2_isLate_24
abbrev rm_X2_whyLate : Room := { frames := 2, cells := 0, slots := 0, locals := 43 }
abbrev WW_X2_whyLate (p : Program) (l : Launch) (e : Env) (s : State) (m : MethodId) (args : Array Value) (below : List Frame) (meth : Method) (c : Code) (E : En) (o : Int64) (res : Int32 × St) (H : Heap) (locs : List Loc) (cells slots : Nat) (g : JFrame) : Prop := W p l e (headSpec wsX2_whyLate rm_X2_whyLate).room s m args below meth c H locs cells slots (MQ below (Qi E s.heap.size o res.1 res.2) args s 0 0 (AA E s.heap.size)) g
theorem k_X2_whyLate_22 : Cond.fieldLink RX2 22 "DaySimulate$Play" "wayOf" "[I" ∈ wsX2_whyLate := by decide +kernel
theorem k_X2_whyLate_18 : Cond.fieldLink RX2 18 "DaySimulate$Play" "unitOf" "[I" ∈ wsX2_whyLate := by decide +kernel
theorem in_X2_whyLate_X2 : ∀ w ∈ wsX20, w ∈ wsX2_whyLate := by decide +kernel
set_option maxHeartbeats 4000000 in
set_option maxRecDepth 100000 in
theorem c_X2_whyLate (l : Launch) (E : En) (o : Int64) (a1 : Int32) (a2 : Int32) (σ : St) {res : Int32 × St} (hf : f_X2_whyLate a1 a2 σ = some res) : CI l yX2_whyLate wsX2_whyLate rm_X2_whyLate E [.ref (ad E 13), .int a1, .int a2] o σ res.1 res.2 := by
  intro sz
  refine Met.ofW (cc := cX2_whyLate) (maxL := 3) (ret := (some .int)) (by decide) rfl ?_
  intro p e s m args below meth c s₁ B hml hv
  obtain ⟨rfl, hv⟩ := hv
  obtain ⟨rfl, hK, I⟩ := hv.start
  have C : Cx p c cX2_whyLate 3 s m _ wsX2_whyLate RX2 E := ⟨⟨B.exec, B.bytes, hml, findClass_of_methodNamed B.named, atoms_spec (ws := wsX2_whyLate) B.pre⟩, hK⟩
  have hx := C.1.1
  have hb := C.1.2.1
  have hr := B.returns
  have hlocks := B.notSynchronized
  clear hv
  have hl := lv_entry ([.ref (ad E 13), .int a1, .int a2]) (n := 3) (Nat.le_of_ble_eq_true rfl)
  rw [lg_entry_eq]
  generalize (lg_sl ([.ref (ad E 13), .int a1, .int a2]) ++ List.replicate (3 - (lg_sl ([.ref (ad E 13), .int a1, .int a2])).length) Slot.unset).toArray = ls at hl ⊢
  have hl : lv_has ls 3 [(0, .ref (ad E 13)), (1, .int a1), (2, .int a2)] := hl
  generalize ([.ref (ad E 13), .int a1, .int a2] : List Value).toArray = args at C ⊢
  refine g_begin I (fun H locs I => ?_)
  rw [f_X2_whyLate] at hf
  refine lv_aload_n hx hb dX2_whyLate_0 rfl (lv_at hl 0 rfl) ?_
  refine lv_iload_n hx hb dX2_whyLate_1 rfl (lv_at hl 1 rfl) ?_
  refine lv_iload_n hx hb dX2_whyLate_2 rfl (lv_at hl 2 rfl) ?_
  obtain ⟨r_1, σ_2, hg_3, hf⟩ := bd_some hf
  refine g_cvi (av := [.int a1, .int a2]) (rest := []) (k := 13) C I AA.new (c_X2_isLate l E o a1 a2 σ hg_3) (cwV 2 C.1.2.2.2.2 gX2_whyLate_X2_isLate rfl rfl rfl (by decide +kernel) ⟨Nat.le_of_ble_eq_true rfl, Nat.le_of_ble_eq_true rfl⟩) (by decide) (gk_13 E o _) rfl rfl rfl hl.1 rfl (Nat.le_of_ble_eq_true rfl) ⟨Nat.le_of_ble_eq_true rfl, Nat.le_of_ble_eq_true rfl⟩ dX2_whyLate_3 (fun H locs I => ?_)
  refine lv_if_ne (tgt := 11) hx hb dX2_whyLate_6 (by decide) (fun c_4 => ?_) (fun c_4 => ?_)
  · have hf := if_f hf c_4
    refine lv_aload_n hx hb dX2_whyLate_11 rfl (lv_at hl 0 rfl) ?_
    refine g_get (k := 13) (v := .ref (ad E 14)) C I (by decide) (gk_13 E o _) rfl in_X2_whyLate_X2 1 (by decide) (C.1.2.2.2.2 _ k_X2_whyLate_18) rfl dX2_whyLate_12 ?_
    refine lv_iload_n hx hb dX2_whyLate_15 rfl (lv_at hl 1 rfl) ?_
    obtain ⟨h_5, hf⟩ := ck_some hf
    refine g_iald (k := 14) C I (by decide) (gk_14 E o) (ixb_in h_5) dX2_whyLate_16 ?_
    refine lv_iconst (v := (-1 : Int32)) hx hb dX2_whyLate_17 (by decide) ?_
    refine lv_icmp_ne (tgt := 23) hx hb dX2_whyLate_18 (by decide) (fun c_6 => ?_) (fun c_6 => ?_)
    · have hf := if_f hf c_6
      refine lv_aload_n hx hb dX2_whyLate_23 rfl (lv_at hl 0 rfl) ?_
      refine g_get (k := 13) (v := .ref (ad E 15)) C I (by decide) (gk_13 E o _) rfl in_X2_whyLate_X2 2 (by decide) (C.1.2.2.2.2 _ k_X2_whyLate_22) rfl dX2_whyLate_24 ?_
      refine lv_iload_n hx hb dX2_whyLate_27 rfl (lv_at hl 1 rfl) ?_
      obtain ⟨h_7, hf⟩ := ck_some hf
      refine g_iald (k := 15) C I (by decide) (gk_15 E o) (ixb_in h_7) dX2_whyLate_28 ?_
      refine lv_iload_n hx hb dX2_whyLate_29 rfl (lv_at hl 2 rfl) ?_
      refine lv_icmp_le (tgt := 37) hx hb dX2_whyLate_30 (by decide) (fun c_8 => ?_) (fun c_8 => ?_)
      · have hf := if_t hf c_8
        refine lv_iconst (v := (1 : Int32)) hx hb dX2_whyLate_37 (by decide) ?_
        exact g_iret C I hr hlocks hf dX2_whyLate_38
      · have hf := if_f hf c_8
        refine lv_iconst (v := (2 : Int32)) hx hb dX2_whyLate_33 (by decide) ?_
        refine lv_goto (tgt := 38) hx hb dX2_whyLate_34 (by decide) ?_
        exact g_iret C I hr hlocks hf dX2_whyLate_38
    · have hf := if_t hf c_6
      refine lv_iconst (v := (3 : Int32)) hx hb dX2_whyLate_21 (by decide) ?_
      exact g_iret C I hr hlocks hf dX2_whyLate_22
  · have hf := if_t hf c_4
    refine lv_iconst (v := (0 : Int32)) hx hb dX2_whyLate_9 (by decide) ?_
    exact g_iret C I hr hlocks hf dX2_whyLate_10
abbrev rm_X2_countLate : Room := { frames := 2, cells := 0, slots := 0, locals := 43 }
abbrev WW_X2_countLate (p : Program) (l : Launch) (e : Env) (s : State) (m : MethodId) (args : Array Value) (below : List Frame) (meth : Method) (c : Code) (E : En) (o : Int64) (res : Int32 × St) (H : Heap) (locs : List Loc) (cells slots : Nat) (g : JFrame) : Prop := W p l e (headSpec wsX2_countLate rm_X2_countLate).room s m args below meth c H locs cells slots (MQ below (Qi E s.heap.size o res.1 res.2) args s 0 0 (AA E s.heap.size)) g
theorem k_X2_countLate_53 : Cond.fieldLink RX2 53 "DaySimulate$Day" "calls" "I" ∈ wsX2_countLate := by decide +kernel
theorem k_X2_countLate_12 : Cond.fieldLink RX2 12 "DaySimulate$Play" "day" "LDaySimulate$Day;" ∈ wsX2_countLate := by decide +kernel
theorem in_X2_countLate_X0 : ∀ w ∈ wsX00, w ∈ wsX2_countLate := by decide +kernel
theorem in_X2_countLate_X2 : ∀ w ∈ wsX20, w ∈ wsX2_countLate := by decide +kernel
set_option maxHeartbeats 4000000 in
set_option maxRecDepth 100000 in
theorem lp_X2_countLate_4 {l : Launch} {p : Program} {e : Env} {s : State} {m : MethodId} {args : Array Value} {below : List Frame} {meth : Method} {c : Code} {E : En} {o : Int64} {res : Int32 × St} (C : Cx p c cX2_countLate 4 s m args wsX2_countLate RX2 E) (hr : meth.sig.returnType = (some .int)) (hlocks : meth.locks = false) (b1 : Int32) (K33 : Int32 → St → Option (Int32 × St)) (hK33 : ∀ (u2 : Int32) (σ : St) (H : Heap) (locs : List Loc) (ls : Array Slot), K33 u2 σ = some res → Iv E (AA E s.heap.size) s.heap o σ H locs → lv_has ls 4 [(2, .int u2)] → WW_X2_countLate p l e s m args below meth c E o res H locs 0 0 (F0 m 33 ls [])) :
    ∀ (n : Nat) (v2 : Int32) (v3 : Int32) (σ : St) (H : Heap) (locs : List Loc) (ls : Array Slot), f_X2_countLate_L4 b1 K33 n v2 v3 σ = some res → Iv E (AA E s.heap.size) s.heap o σ H locs → lv_has ls 4 [(0, .ref (ad E 13)), (1, .int b1), (2, .int v2), (3, .int v3)] → WW_X2_countLate p l e s m args below meth c E o res H locs 0 0 (F0 m 4 ls []) := by
  have hx := C.1.1
  have hb := C.1.2.1
  intro n
  induction n with
  | zero => intro v2 v3 σ H locs ls hf _ _; cases (show (none : Option (Int32 × St)) = some res from hf)
  | succ n ih =>
    intro v2 v3 σ H locs ls hf I hl
    rw [f_X2_countLate_L4] at hf
    refine lv_iload_n hx hb dX2_countLate_4 rfl (lv_at hl 3 rfl) ?_
    refine lv_aload_n hx hb dX2_countLate_5 rfl (lv_at hl 0 rfl) ?_
    refine g_get (k := 13) (v := .ref (ad E 34)) C I (by decide) (gk_13 E o _) rfl in_X2_countLate_X2 0 (by decide) (C.1.2.2.2.2 _ k_X2_countLate_12) rfl dX2_countLate_6 ?_
    refine g_get (k := 34) (v := .int (σ 34 4)) C I (by decide) (gk_34 E o _) rfl in_X2_countLate_X0 4 (by decide) (C.1.2.2.2.2 _ k_X2_countLate_53) rfl dX2_countLate_9 ?_
    refine lv_icmp_ge (tgt := 33) hx hb dX2_countLate_12 (by decide) (fun c_1 => ?_) (fun c_1 => ?_)
    · have hf := if_t hf c_1
      exact hK33 v2 σ H locs ls hf I (lv_sub hl [2] rfl)
    · have hf := if_f hf c_1
      refine lv_aload_n hx hb dX2_countLate_15 rfl (lv_at hl 0 rfl) ?_
      refine lv_iload_n hx hb dX2_countLate_16 rfl (lv_at hl 3 rfl) ?_
      refine lv_iload_n hx hb dX2_countLate_17 rfl (lv_at hl 1 rfl) ?_
      obtain ⟨r_2, σ_3, hg_4, hf⟩ := bd_some hf
      refine g_cvi (av := [.int v3, .int b1]) (rest := []) (k := 13) C I AA.new (c_X2_isLate l E o v3 b1 σ hg_4) (cwV 2 C.1.2.2.2.2 gX2_countLate_X2_isLate rfl rfl rfl (by decide +kernel) ⟨Nat.le_of_ble_eq_true rfl, Nat.le_of_ble_eq_true rfl⟩) (by decide) (gk_13 E o _) rfl rfl rfl hl.1 rfl (Nat.le_of_ble_eq_true rfl) ⟨Nat.le_of_ble_eq_true rfl, Nat.le_of_ble_eq_true rfl⟩ dX2_countLate_18 (fun H locs I => ?_)
      refine lv_if_eq (tgt := 27) hx hb dX2_countLate_21 (by decide) (fun c_5 => ?_) (fun c_5 => ?_)
      · have hf := if_t hf c_5
        obtain ⟨x_6, ex_6⟩ : ∃ y : Int32, y = (v3 + (1 : Int32)) := ⟨_, rfl⟩
        have hf := lt_at hf ex_6
        refine lv_iinc (v := x_6) (lv' := [(3, .int x_6), (0, .ref (ad E 13)), (1, .int b1), (2, .int v2)]) hx hb dX2_countLate_27 hl (k := 3) rfl (by rw [ex_6]; rfl) (by decide) rfl (fun ls hl => ?_)
        refine lv_goto (tgt := 4) hx hb dX2_countLate_30 (by decide) ?_
        exact ih v2 x_6 σ_3 H locs ls hf I (lv_sub hl [1, 2, 3, 0] rfl)
      · have hf := if_f hf c_5
        obtain ⟨x_7, ex_7⟩ : ∃ y : Int32, y = (v2 + (1 : Int32)) := ⟨_, rfl⟩
        have hf := lt_at hf ex_7
        refine lv_iinc (v := x_7) (lv' := [(2, .int x_7), (0, .ref (ad E 13)), (1, .int b1), (3, .int v3)]) hx hb dX2_countLate_24 hl (k := 2) rfl (by rw [ex_7]; rfl) (by decide) rfl (fun ls hl => ?_)
        obtain ⟨x_8, ex_8⟩ : ∃ y : Int32, y = (v3 + (1 : Int32)) := ⟨_, rfl⟩
        have hf := lt_at hf ex_8
        refine lv_iinc (v := x_8) (lv' := [(3, .int x_8), (2, .int x_7), (0, .ref (ad E 13)), (1, .int b1)]) hx hb dX2_countLate_27 hl (k := 3) rfl (by rw [ex_8]; rfl) (by decide) rfl (fun ls hl => ?_)
        refine lv_goto (tgt := 4) hx hb dX2_countLate_30 (by decide) ?_
        exact ih x_7 x_8 σ_3 H locs ls hf I (lv_sub hl [2, 3, 1, 0] rfl)
set_option maxHeartbeats 4000000 in
set_option maxRecDepth 100000 in
theorem c_X2_countLate (l : Launch) (E : En) (o : Int64) (a1 : Int32) (σ : St) {res : Int32 × St} (hf : f_X2_countLate a1 σ = some res) : CI l yX2_countLate wsX2_countLate rm_X2_countLate E [.ref (ad E 13), .int a1] o σ res.1 res.2 := by
  intro sz
  refine Met.ofW (cc := cX2_countLate) (maxL := 4) (ret := (some .int)) (by decide) rfl ?_
  intro p e s m args below meth c s₁ B hml hv
  obtain ⟨rfl, hv⟩ := hv
  obtain ⟨rfl, hK, I⟩ := hv.start
  have C : Cx p c cX2_countLate 4 s m _ wsX2_countLate RX2 E := ⟨⟨B.exec, B.bytes, hml, findClass_of_methodNamed B.named, atoms_spec (ws := wsX2_countLate) B.pre⟩, hK⟩
  have hx := C.1.1
  have hb := C.1.2.1
  have hr := B.returns
  have hlocks := B.notSynchronized
  clear hv
  have hl := lv_entry ([.ref (ad E 13), .int a1]) (n := 4) (Nat.le_of_ble_eq_true rfl)
  rw [lg_entry_eq]
  generalize (lg_sl ([.ref (ad E 13), .int a1]) ++ List.replicate (4 - (lg_sl ([.ref (ad E 13), .int a1])).length) Slot.unset).toArray = ls at hl ⊢
  have hl : lv_has ls 4 [(0, .ref (ad E 13)), (1, .int a1)] := hl
  generalize ([.ref (ad E 13), .int a1] : List Value).toArray = args at C ⊢
  refine g_begin I (fun H locs I => ?_)
  rw [f_X2_countLate] at hf
  refine lv_iconst (v := (0 : Int32)) hx hb dX2_countLate_0 (by decide) ?_
  refine lv_istore_n (lv' := [(2, .int (0 : Int32)), (0, .ref (ad E 13)), (1, .int a1)]) hx hb dX2_countLate_1 rfl hl (by decide) rfl (fun ls hl => ?_)
  refine lv_iconst (v := (0 : Int32)) hx hb dX2_countLate_2 (by decide) ?_
  refine lv_istore_n (lv' := [(3, .int (0 : Int32)), (2, .int (0 : Int32)), (0, .ref (ad E 13)), (1, .int a1)]) hx hb dX2_countLate_3 rfl hl (by decide) rfl (fun ls hl => ?_)
  refine lp_X2_countLate_4 C hr hlocks a1 _ ?_ _ (0 : Int32) (0 : Int32) σ H locs ls hf I (lv_sub hl [2, 3, 1, 0] rfl)
  · intro y_9 σ_10 H locs ls hf I hl
    refine lv_iload_n hx hb dX2_countLate_33 rfl (lv_at hl 0 rfl) ?_
    exact g_iret C I hr hlocks hf dX2_countLate_34
abbrev rm_X2_countServed : Room := { frames := 0, cells := 0, slots := 0, locals := 0 }
abbrev WW_X2_countServed (p : Program) (l : Launch) (e : Env) (s : State) (m : MethodId) (args : Array Value) (below : List Frame) (meth : Method) (c : Code) (E : En) (o : Int64) (res : Int32 × St) (H : Heap) (locs : List Loc) (cells slots : Nat) (g : JFrame) : Prop := W p l e (headSpec wsX2_countServed rm_X2_countServed).room s m args below meth c H locs cells slots (MQ below (Qi E s.heap.size o res.1 res.2) args s 0 0 (AA E s.heap.size)) g
theorem k_X2_countServed_18 : Cond.fieldLink RX2 18 "DaySimulate$Play" "unitOf" "[I" ∈ wsX2_countServed := by decide +kernel
theorem k_X2_countServed_53 : Cond.fieldLink RX2 53 "DaySimulate$Day" "calls" "I" ∈ wsX2_countServed := by decide +kernel
theorem k_X2_countServed_12 : Cond.fieldLink RX2 12 "DaySimulate$Play" "day" "LDaySimulate$Day;" ∈ wsX2_countServed := by decide +kernel
theorem in_X2_countServed_X0 : ∀ w ∈ wsX00, w ∈ wsX2_countServed := by decide +kernel
theorem in_X2_countServed_X2 : ∀ w ∈ wsX20, w ∈ wsX2_countServed := by decide +kernel
set_option maxHeartbeats 4000000 in
set_option maxRecDepth 100000 in
theorem lp_X2_countServed_4 {l : Launch} {p : Program} {e : Env} {s : State} {m : MethodId} {args : Array Value} {below : List Frame} {meth : Method} {c : Code} {E : En} {o : Int64} {res : Int32 × St} (C : Cx p c cX2_countServed 3 s m args wsX2_countServed RX2 E) (hr : meth.sig.returnType = (some .int)) (hlocks : meth.locks = false)  (K34 : Int32 → St → Option (Int32 × St)) (hK34 : ∀ (u1 : Int32) (σ : St) (H : Heap) (locs : List Loc) (ls : Array Slot), K34 u1 σ = some res → Iv E (AA E s.heap.size) s.heap o σ H locs → lv_has ls 3 [(1, .int u1)] → WW_X2_countServed p l e s m args below meth c E o res H locs 0 0 (F0 m 34 ls [])) :
    ∀ (n : Nat) (v1 : Int32) (v2 : Int32) (σ : St) (H : Heap) (locs : List Loc) (ls : Array Slot), f_X2_countServed_L4 K34 n v1 v2 σ = some res → Iv E (AA E s.heap.size) s.heap o σ H locs → lv_has ls 3 [(0, .ref (ad E 13)), (1, .int v1), (2, .int v2)] → WW_X2_countServed p l e s m args below meth c E o res H locs 0 0 (F0 m 4 ls []) := by
  have hx := C.1.1
  have hb := C.1.2.1
  intro n
  induction n with
  | zero => intro v1 v2 σ H locs ls hf _ _; cases (show (none : Option (Int32 × St)) = some res from hf)
  | succ n ih =>
    intro v1 v2 σ H locs ls hf I hl
    rw [f_X2_countServed_L4] at hf
    refine lv_iload_n hx hb dX2_countServed_4 rfl (lv_at hl 2 rfl) ?_
    refine lv_aload_n hx hb dX2_countServed_5 rfl (lv_at hl 0 rfl) ?_
    refine g_get (k := 13) (v := .ref (ad E 34)) C I (by decide) (gk_13 E o _) rfl in_X2_countServed_X2 0 (by decide) (C.1.2.2.2.2 _ k_X2_countServed_12) rfl dX2_countServed_6 ?_
    refine g_get (k := 34) (v := .int (σ 34 4)) C I (by decide) (gk_34 E o _) rfl in_X2_countServed_X0 4 (by decide) (C.1.2.2.2.2 _ k_X2_countServed_53) rfl dX2_countServed_9 ?_
    refine lv_icmp_ge (tgt := 34) hx hb dX2_countServed_12 (by decide) (fun c_1 => ?_) (fun c_1 => ?_)
    · have hf := if_t hf c_1
      exact hK34 v1 σ H locs ls hf I (lv_sub hl [1] rfl)
    · have hf := if_f hf c_1
      refine lv_aload_n hx hb dX2_countServed_15 rfl (lv_at hl 0 rfl) ?_
      refine g_get (k := 13) (v := .ref (ad E 14)) C I (by decide) (gk_13 E o _) rfl in_X2_countServed_X2 1 (by decide) (C.1.2.2.2.2 _ k_X2_countServed_18) rfl dX2_countServed_16 ?_
      refine lv_iload_n hx hb dX2_countServed_19 rfl (lv_at hl 2 rfl) ?_
      obtain ⟨h_2, hf⟩ := ck_some hf
      refine g_iald (k := 14) C I (by decide) (gk_14 E o) (ixb_in h_2) dX2_countServed_20 ?_
      refine lv_iconst (v := (-1 : Int32)) hx hb dX2_countServed_21 (by decide) ?_
      refine lv_icmp_eq (tgt := 28) hx hb dX2_countServed_22 (by decide) (fun c_3 => ?_) (fun c_3 => ?_)
      · have hf := if_t hf c_3
        obtain ⟨x_4, ex_4⟩ : ∃ y : Int32, y = (v2 + (1 : Int32)) := ⟨_, rfl⟩
        have hf := lt_at hf ex_4
        refine lv_iinc (v := x_4) (lv' := [(2, .int x_4), (0, .ref (ad E 13)), (1, .int v1)]) hx hb dX2_countServed_28 hl (k := 2) rfl (by rw [ex_4]; rfl) (by decide) rfl (fun ls hl => ?_)
        refine lv_goto (tgt := 4) hx hb dX2_countServed_31 (by decide) ?_
        exact ih v1 x_4 σ H locs ls hf I (lv_sub hl [1, 2, 0] rfl)
      · have hf := if_f hf c_3
        obtain ⟨x_5, ex_5⟩ : ∃ y : Int32, y = (v1 + (1 : Int32)) := ⟨_, rfl⟩
        have hf := lt_at hf ex_5
        refine lv_iinc (v := x_5) (lv' := [(1, .int x_5), (0, .ref (ad E 13)), (2, .int v2)]) hx hb dX2_countServed_25 hl (k := 1) rfl (by rw [ex_5]; rfl) (by decide) rfl (fun ls hl => ?_)
        obtain ⟨x_6, ex_6⟩ : ∃ y : Int32, y = (v2 + (1 : Int32)) := ⟨_, rfl⟩
        have hf := lt_at hf ex_6
        refine lv_iinc (v := x_6) (lv' := [(2, .int x_6), (1, .int x_5), (0, .ref (ad E 13))]) hx hb dX2_countServed_28 hl (k := 2) rfl (by rw [ex_6]; rfl) (by decide) rfl (fun ls hl => ?_)
        refine lv_goto (tgt := 4) hx hb dX2_countServed_31 (by decide) ?_
        exact ih x_5 x_6 σ H locs ls hf I (lv_sub hl [2, 1, 0] rfl)
set_option maxHeartbeats 4000000 in
set_option maxRecDepth 100000 in
theorem c_X2_countServed (l : Launch) (E : En) (o : Int64)  (σ : St) {res : Int32 × St} (hf : f_X2_countServed σ = some res) : CI l yX2_countServed wsX2_countServed rm_X2_countServed E [.ref (ad E 13)] o σ res.1 res.2 := by
  intro sz
  refine Met.ofW (cc := cX2_countServed) (maxL := 3) (ret := (some .int)) (by decide) rfl ?_
  intro p e s m args below meth c s₁ B hml hv
  obtain ⟨rfl, hv⟩ := hv
  obtain ⟨rfl, hK, I⟩ := hv.start
  have C : Cx p c cX2_countServed 3 s m _ wsX2_countServed RX2 E := ⟨⟨B.exec, B.bytes, hml, findClass_of_methodNamed B.named, atoms_spec (ws := wsX2_countServed) B.pre⟩, hK⟩
  have hx := C.1.1
  have hb := C.1.2.1
  have hr := B.returns
  have hlocks := B.notSynchronized
  clear hv
  have hl := lv_entry ([.ref (ad E 13)]) (n := 3) (Nat.le_of_ble_eq_true rfl)
  rw [lg_entry_eq]
  generalize (lg_sl ([.ref (ad E 13)]) ++ List.replicate (3 - (lg_sl ([.ref (ad E 13)])).length) Slot.unset).toArray = ls at hl ⊢
  have hl : lv_has ls 3 [(0, .ref (ad E 13))] := hl
  generalize ([.ref (ad E 13)] : List Value).toArray = args at C ⊢
  refine g_begin I (fun H locs I => ?_)
  rw [f_X2_countServed] at hf
  refine lv_iconst (v := (0 : Int32)) hx hb dX2_countServed_0 (by decide) ?_
  refine lv_istore_n (lv' := [(1, .int (0 : Int32)), (0, .ref (ad E 13))]) hx hb dX2_countServed_1 rfl hl (by decide) rfl (fun ls hl => ?_)
  refine lv_iconst (v := (0 : Int32)) hx hb dX2_countServed_2 (by decide) ?_
  refine lv_istore_n (lv' := [(2, .int (0 : Int32)), (1, .int (0 : Int32)), (0, .ref (ad E 13))]) hx hb dX2_countServed_3 rfl hl (by decide) rfl (fun ls hl => ?_)
  refine lp_X2_countServed_4 C hr hlocks _ ?_ _ (0 : Int32) (0 : Int32) σ H locs ls hf I (lv_sub hl [2, 1, 0] rfl)
  · intro y_7 σ_8 H locs ls hf I hl
    refine lv_iload_n hx hb dX2_countServed_34 rfl (lv_at hl 0 rfl) ?_
    exact g_iret C I hr hlocks hf dX2_countServed_35
abbrev rm_X2_countArrivedBy : Room := { frames := 0, cells := 0, slots := 0, locals := 0 }
abbrev WW_X2_countArrivedBy (p : Program) (l : Launch) (e : Env) (s : State) (m : MethodId) (args : Array Value) (below : List Frame) (meth : Method) (c : Code) (E : En) (o : Int64) (res : Int32 × St) (H : Heap) (locs : List Loc) (cells slots : Nat) (g : JFrame) : Prop := W p l e (headSpec wsX2_countArrivedBy rm_X2_countArrivedBy).room s m args below meth c H locs cells slots (MQ below (Qi E s.heap.size o res.1 res.2) args s 0 0 (AA E s.heap.size)) g
theorem k_X2_countArrivedBy_25 : Cond.fieldLink RX2 25 "DaySimulate$Play" "arrival" "[I" ∈ wsX2_countArrivedBy := by decide +kernel
theorem k_X2_countArrivedBy_18 : Cond.fieldLink RX2 18 "DaySimulate$Play" "unitOf" "[I" ∈ wsX2_countArrivedBy := by decide +kernel
theorem k_X2_countArrivedBy_53 : Cond.fieldLink RX2 53 "DaySimulate$Day" "calls" "I" ∈ wsX2_countArrivedBy := by decide +kernel
theorem k_X2_countArrivedBy_12 : Cond.fieldLink RX2 12 "DaySimulate$Play" "day" "LDaySimulate$Day;" ∈ wsX2_countArrivedBy := by decide +kernel
theorem in_X2_countArrivedBy_X0 : ∀ w ∈ wsX00, w ∈ wsX2_countArrivedBy := by decide +kernel
theorem in_X2_countArrivedBy_X2 : ∀ w ∈ wsX20, w ∈ wsX2_countArrivedBy := by decide +kernel
set_option maxHeartbeats 4000000 in
set_option maxRecDepth 100000 in
theorem lp_X2_countArrivedBy_4 {l : Launch} {p : Program} {e : Env} {s : State} {m : MethodId} {args : Array Value} {below : List Frame} {meth : Method} {c : Code} {E : En} {o : Int64} {res : Int32 × St} (C : Cx p c cX2_countArrivedBy 4 s m args wsX2_countArrivedBy RX2 E) (hr : meth.sig.returnType = (some .int)) (hlocks : meth.locks = false) (b1 : Int32) (K44 : Int32 → St → Option (Int32 × St)) (hK44 : ∀ (u2 : Int32) (σ : St) (H : Heap) (locs : List Loc) (ls : Array Slot), K44 u2 σ = some res → Iv E (AA E s.heap.size) s.heap o σ H locs → lv_has ls 4 [(2, .int u2)] → WW_X2_countArrivedBy p l e s m args below meth c E o res H locs 0 0 (F0 m 44 ls [])) :
    ∀ (n : Nat) (v2 : Int32) (v3 : Int32) (σ : St) (H : Heap) (locs : List Loc) (ls : Array Slot), f_X2_countArrivedBy_L4 b1 K44 n v2 v3 σ = some res → Iv E (AA E s.heap.size) s.heap o σ H locs → lv_has ls 4 [(0, .ref (ad E 13)), (1, .int b1), (2, .int v2), (3, .int v3)] → WW_X2_countArrivedBy p l e s m args below meth c E o res H locs 0 0 (F0 m 4 ls []) := by
  have hx := C.1.1
  have hb := C.1.2.1
  intro n
  induction n with
  | zero => intro v2 v3 σ H locs ls hf _ _; cases (show (none : Option (Int32 × St)) = some res from hf)
  | succ n ih =>
    intro v2 v3 σ H locs ls hf I hl
    rw [f_X2_countArrivedBy_L4] at hf
    refine lv_iload_n hx hb dX2_countArrivedBy_4 rfl (lv_at hl 3 rfl) ?_
    refine lv_aload_n hx hb dX2_countArrivedBy_5 rfl (lv_at hl 0 rfl) ?_
    refine g_get (k := 13) (v := .ref (ad E 34)) C I (by decide) (gk_13 E o _) rfl in_X2_countArrivedBy_X2 0 (by decide) (C.1.2.2.2.2 _ k_X2_countArrivedBy_12) rfl dX2_countArrivedBy_6 ?_
    refine g_get (k := 34) (v := .int (σ 34 4)) C I (by decide) (gk_34 E o _) rfl in_X2_countArrivedBy_X0 4 (by decide) (C.1.2.2.2.2 _ k_X2_countArrivedBy_53) rfl dX2_countArrivedBy_9 ?_
    refine lv_icmp_ge (tgt := 44) hx hb dX2_countArrivedBy_12 (by decide) (fun c_1 => ?_) (fun c_1 => ?_)
    · have hf := if_t hf c_1
      exact hK44 v2 σ H locs ls hf I (lv_sub hl [2] rfl)
    · have hf := if_f hf c_1
      refine lv_aload_n hx hb dX2_countArrivedBy_15 rfl (lv_at hl 0 rfl) ?_
      refine g_get (k := 13) (v := .ref (ad E 14)) C I (by decide) (gk_13 E o _) rfl in_X2_countArrivedBy_X2 1 (by decide) (C.1.2.2.2.2 _ k_X2_countArrivedBy_18) rfl dX2_countArrivedBy_16 ?_
      refine lv_iload_n hx hb dX2_countArrivedBy_19 rfl (lv_at hl 3 rfl) ?_
      obtain ⟨h_2, hf⟩ := ck_some hf
      refine g_iald (k := 14) C I (by decide) (gk_14 E o) (ixb_in h_2) dX2_countArrivedBy_20 ?_
      refine lv_iconst (v := (-1 : Int32)) hx hb dX2_countArrivedBy_21 (by decide) ?_
      refine lv_icmp_eq (tgt := 38) hx hb dX2_countArrivedBy_22 (by decide) (fun c_3 => ?_) (fun c_3 => ?_)
      · have hf := if_t hf c_3
        obtain ⟨x_4, ex_4⟩ : ∃ y : Int32, y = (v3 + (1 : Int32)) := ⟨_, rfl⟩
        have hf := lt_at hf ex_4
        refine lv_iinc (v := x_4) (lv' := [(3, .int x_4), (0, .ref (ad E 13)), (1, .int b1), (2, .int v2)]) hx hb dX2_countArrivedBy_38 hl (k := 3) rfl (by rw [ex_4]; rfl) (by decide) rfl (fun ls hl => ?_)
        refine lv_goto (tgt := 4) hx hb dX2_countArrivedBy_41 (by decide) ?_
        exact ih v2 x_4 σ H locs ls hf I (lv_sub hl [1, 2, 3, 0] rfl)
      · have hf := if_f hf c_3
        refine lv_aload_n hx hb dX2_countArrivedBy_25 rfl (lv_at hl 0 rfl) ?_
        refine g_get (k := 13) (v := .ref (ad E 16)) C I (by decide) (gk_13 E o _) rfl in_X2_countArrivedBy_X2 3 (by decide) (C.1.2.2.2.2 _ k_X2_countArrivedBy_25) rfl dX2_countArrivedBy_26 ?_
        refine lv_iload_n hx hb dX2_countArrivedBy_29 rfl (lv_at hl 3 rfl) ?_
        obtain ⟨h_5, hf⟩ := ck_some hf
        refine g_iald (k := 16) C I (by decide) (gk_16 E o) (ixb_in h_5) dX2_countArrivedBy_30 ?_
        refine lv_iload_n hx hb dX2_countArrivedBy_31 rfl (lv_at hl 1 rfl) ?_
        refine lv_icmp_gt (tgt := 38) hx hb dX2_countArrivedBy_32 (by decide) (fun c_6 => ?_) (fun c_6 => ?_)
        · have hf := if_t hf c_6
          obtain ⟨x_7, ex_7⟩ : ∃ y : Int32, y = (v3 + (1 : Int32)) := ⟨_, rfl⟩
          have hf := lt_at hf ex_7
          refine lv_iinc (v := x_7) (lv' := [(3, .int x_7), (0, .ref (ad E 13)), (1, .int b1), (2, .int v2)]) hx hb dX2_countArrivedBy_38 hl (k := 3) rfl (by rw [ex_7]; rfl) (by decide) rfl (fun ls hl => ?_)
          refine lv_goto (tgt := 4) hx hb dX2_countArrivedBy_41 (by decide) ?_
          exact ih v2 x_7 σ H locs ls hf I (lv_sub hl [1, 2, 3, 0] rfl)
        · have hf := if_f hf c_6
          obtain ⟨x_8, ex_8⟩ : ∃ y : Int32, y = (v2 + (1 : Int32)) := ⟨_, rfl⟩
          have hf := lt_at hf ex_8
          refine lv_iinc (v := x_8) (lv' := [(2, .int x_8), (0, .ref (ad E 13)), (1, .int b1), (3, .int v3)]) hx hb dX2_countArrivedBy_35 hl (k := 2) rfl (by rw [ex_8]; rfl) (by decide) rfl (fun ls hl => ?_)
          obtain ⟨x_9, ex_9⟩ : ∃ y : Int32, y = (v3 + (1 : Int32)) := ⟨_, rfl⟩
          have hf := lt_at hf ex_9
          refine lv_iinc (v := x_9) (lv' := [(3, .int x_9), (2, .int x_8), (0, .ref (ad E 13)), (1, .int b1)]) hx hb dX2_countArrivedBy_38 hl (k := 3) rfl (by rw [ex_9]; rfl) (by decide) rfl (fun ls hl => ?_)
          refine lv_goto (tgt := 4) hx hb dX2_countArrivedBy_41 (by decide) ?_
          exact ih x_8 x_9 σ H locs ls hf I (lv_sub hl [2, 3, 1, 0] rfl)
set_option maxHeartbeats 4000000 in
set_option maxRecDepth 100000 in
theorem c_X2_countArrivedBy (l : Launch) (E : En) (o : Int64) (a1 : Int32) (σ : St) {res : Int32 × St} (hf : f_X2_countArrivedBy a1 σ = some res) : CI l yX2_countArrivedBy wsX2_countArrivedBy rm_X2_countArrivedBy E [.ref (ad E 13), .int a1] o σ res.1 res.2 := by
  intro sz
  refine Met.ofW (cc := cX2_countArrivedBy) (maxL := 4) (ret := (some .int)) (by decide) rfl ?_
  intro p e s m args below meth c s₁ B hml hv
  obtain ⟨rfl, hv⟩ := hv
  obtain ⟨rfl, hK, I⟩ := hv.start
  have C : Cx p c cX2_countArrivedBy 4 s m _ wsX2_countArrivedBy RX2 E := ⟨⟨B.exec, B.bytes, hml, findClass_of_methodNamed B.named, atoms_spec (ws := wsX2_countArrivedBy) B.pre⟩, hK⟩
  have hx := C.1.1
  have hb := C.1.2.1
  have hr := B.returns
  have hlocks := B.notSynchronized
  clear hv
  have hl := lv_entry ([.ref (ad E 13), .int a1]) (n := 4) (Nat.le_of_ble_eq_true rfl)
  rw [lg_entry_eq]
  generalize (lg_sl ([.ref (ad E 13), .int a1]) ++ List.replicate (4 - (lg_sl ([.ref (ad E 13), .int a1])).length) Slot.unset).toArray = ls at hl ⊢
  have hl : lv_has ls 4 [(0, .ref (ad E 13)), (1, .int a1)] := hl
  generalize ([.ref (ad E 13), .int a1] : List Value).toArray = args at C ⊢
  refine g_begin I (fun H locs I => ?_)
  rw [f_X2_countArrivedBy] at hf
  refine lv_iconst (v := (0 : Int32)) hx hb dX2_countArrivedBy_0 (by decide) ?_
  refine lv_istore_n (lv' := [(2, .int (0 : Int32)), (0, .ref (ad E 13)), (1, .int a1)]) hx hb dX2_countArrivedBy_1 rfl hl (by decide) rfl (fun ls hl => ?_)
  refine lv_iconst (v := (0 : Int32)) hx hb dX2_countArrivedBy_2 (by decide) ?_
  refine lv_istore_n (lv' := [(3, .int (0 : Int32)), (2, .int (0 : Int32)), (0, .ref (ad E 13)), (1, .int a1)]) hx hb dX2_countArrivedBy_3 rfl hl (by decide) rfl (fun ls hl => ?_)
  refine lp_X2_countArrivedBy_4 C hr hlocks a1 _ ?_ _ (0 : Int32) (0 : Int32) σ H locs ls hf I (lv_sub hl [2, 3, 1, 0] rfl)
  · intro y_10 σ_11 H locs ls hf I hl
    refine lv_iload_n hx hb dX2_countArrivedBy_44 rfl (lv_at hl 0 rfl) ?_
    exact g_iret C I hr hlocks hf dX2_countArrivedBy_45
abbrev rm_X2_sumOfDelays : Room := { frames := 1, cells := 0, slots := 0, locals := 21 }
abbrev WW_X2_sumOfDelays (p : Program) (l : Launch) (e : Env) (s : State) (m : MethodId) (args : Array Value) (below : List Frame) (meth : Method) (c : Code) (E : En) (o : Int64) (res : Int64 × St) (H : Heap) (locs : List Loc) (cells slots : Nat) (g : JFrame) : Prop := W p l e (headSpec wsX2_sumOfDelays rm_X2_sumOfDelays).room s m args below meth c H locs cells slots (MQ below (Ql E s.heap.size o res.1 res.2) args s 0 0 (AA E s.heap.size)) g
theorem k_X2_sumOfDelays_18 : Cond.fieldLink RX2 18 "DaySimulate$Play" "unitOf" "[I" ∈ wsX2_sumOfDelays := by decide +kernel
theorem k_X2_sumOfDelays_53 : Cond.fieldLink RX2 53 "DaySimulate$Day" "calls" "I" ∈ wsX2_sumOfDelays := by decide +kernel
theorem k_X2_sumOfDelays_12 : Cond.fieldLink RX2 12 "DaySimulate$Play" "day" "LDaySimulate$Day;" ∈ wsX2_sumOfDelays := by decide +kernel
theorem in_X2_sumOfDelays_X0 : ∀ w ∈ wsX00, w ∈ wsX2_sumOfDelays := by decide +kernel
theorem in_X2_sumOfDelays_X2 : ∀ w ∈ wsX20, w ∈ wsX2_sumOfDelays := by decide +kernel
set_option maxHeartbeats 4000000 in
set_option maxRecDepth 100000 in
theorem lp_X2_sumOfDelays_4 {l : Launch} {p : Program} {e : Env} {s : State} {m : MethodId} {args : Array Value} {below : List Frame} {meth : Method} {c : Code} {E : En} {o : Int64} {res : Int64 × St} (C : Cx p c cX2_sumOfDelays 4 s m args wsX2_sumOfDelays RX2 E) (hr : meth.sig.returnType = (some .long)) (hlocks : meth.locks = false)  (K40 : Int64 → St → Option (Int64 × St)) (hK40 : ∀ (u1 : Int64) (σ : St) (H : Heap) (locs : List Loc) (ls : Array Slot), K40 u1 σ = some res → Iv E (AA E s.heap.size) s.heap o σ H locs → lv_has ls 4 [(1, .long u1)] → WW_X2_sumOfDelays p l e s m args below meth c E o res H locs 0 0 (F0 m 40 ls [])) :
    ∀ (n : Nat) (v1 : Int64) (v3 : Int32) (σ : St) (H : Heap) (locs : List Loc) (ls : Array Slot), f_X2_sumOfDelays_L4 K40 n v1 v3 σ = some res → Iv E (AA E s.heap.size) s.heap o σ H locs → lv_has ls 4 [(0, .ref (ad E 13)), (1, .long v1), (3, .int v3)] → WW_X2_sumOfDelays p l e s m args below meth c E o res H locs 0 0 (F0 m 4 ls []) := by
  have hx := C.1.1
  have hb := C.1.2.1
  intro n
  induction n with
  | zero => intro v1 v3 σ H locs ls hf _ _; cases (show (none : Option (Int64 × St)) = some res from hf)
  | succ n ih =>
    intro v1 v3 σ H locs ls hf I hl
    rw [f_X2_sumOfDelays_L4] at hf
    refine lv_iload_n hx hb dX2_sumOfDelays_4 rfl (lv_at hl 2 rfl) ?_
    refine lv_aload_n hx hb dX2_sumOfDelays_5 rfl (lv_at hl 0 rfl) ?_
    refine g_get (k := 13) (v := .ref (ad E 34)) C I (by decide) (gk_13 E o _) rfl in_X2_sumOfDelays_X2 0 (by decide) (C.1.2.2.2.2 _ k_X2_sumOfDelays_12) rfl dX2_sumOfDelays_6 ?_
    refine g_get (k := 34) (v := .int (σ 34 4)) C I (by decide) (gk_34 E o _) rfl in_X2_sumOfDelays_X0 4 (by decide) (C.1.2.2.2.2 _ k_X2_sumOfDelays_53) rfl dX2_sumOfDelays_9 ?_
    refine lv_icmp_ge (tgt := 40) hx hb dX2_sumOfDelays_12 (by decide) (fun c_1 => ?_) (fun c_1 => ?_)
    · have hf := if_t hf c_1
      exact hK40 v1 σ H locs ls hf I (lv_sub hl [1] rfl)
    · have hf := if_f hf c_1
      refine lv_aload_n hx hb dX2_sumOfDelays_15 rfl (lv_at hl 0 rfl) ?_
      refine g_get (k := 13) (v := .ref (ad E 14)) C I (by decide) (gk_13 E o _) rfl in_X2_sumOfDelays_X2 1 (by decide) (C.1.2.2.2.2 _ k_X2_sumOfDelays_18) rfl dX2_sumOfDelays_16 ?_
      refine lv_iload_n hx hb dX2_sumOfDelays_19 rfl (lv_at hl 2 rfl) ?_
      obtain ⟨h_2, hf⟩ := ck_some hf
      refine g_iald (k := 14) C I (by decide) (gk_14 E o) (ixb_in h_2) dX2_sumOfDelays_20 ?_
      refine lv_iconst (v := (-1 : Int32)) hx hb dX2_sumOfDelays_21 (by decide) ?_
      refine lv_icmp_eq (tgt := 34) hx hb dX2_sumOfDelays_22 (by decide) (fun c_3 => ?_) (fun c_3 => ?_)
      · have hf := if_t hf c_3
        obtain ⟨x_4, ex_4⟩ : ∃ y : Int32, y = (v3 + (1 : Int32)) := ⟨_, rfl⟩
        have hf := lt_at hf ex_4
        refine lv_iinc (v := x_4) (lv' := [(3, .int x_4), (0, .ref (ad E 13)), (1, .long v1)]) hx hb dX2_sumOfDelays_34 hl (k := 2) rfl (by rw [ex_4]; rfl) (by decide) rfl (fun ls hl => ?_)
        refine lv_goto (tgt := 4) hx hb dX2_sumOfDelays_37 (by decide) ?_
        exact ih v1 x_4 σ H locs ls hf I (lv_sub hl [1, 2, 0] rfl)
      · have hf := if_f hf c_3
        refine lv_lload_n hx hb dX2_sumOfDelays_25 rfl (lv_at hl 1 rfl) ?_
        refine lv_aload_n hx hb dX2_sumOfDelays_26 rfl (lv_at hl 0 rfl) ?_
        refine lv_iload_n hx hb dX2_sumOfDelays_27 rfl (lv_at hl 2 rfl) ?_
        obtain ⟨r_5, σ_6, hg_7, hf⟩ := bd_some hf
        refine g_cvi (av := [.int v3]) (rest := [.long v1]) (k := 13) C I AA.new (c_X2_delay l E o v3 σ hg_7) (cwV 1 C.1.2.2.2.2 gX2_sumOfDelays_X2_delay rfl rfl rfl (by decide +kernel) ⟨Nat.le_of_ble_eq_true rfl, Nat.le_of_ble_eq_true rfl⟩) (by decide) (gk_13 E o _) rfl rfl rfl hl.1 rfl (Nat.le_of_ble_eq_true rfl) ⟨Nat.le_of_ble_eq_true rfl, Nat.le_of_ble_eq_true rfl⟩ dX2_sumOfDelays_28 (fun H locs I => ?_)
        refine lv_i2l hx hb dX2_sumOfDelays_31 rfl ?_
        refine lv_ladd hx hb dX2_sumOfDelays_32 ?_
        refine lv_topl (fun x_8 ex_8 => ?_)
        have hf := lt_at hf ex_8
        refine lv_lstore_n (lv' := [(1, .long x_8), (0, .ref (ad E 13)), (3, .int v3)]) hx hb dX2_sumOfDelays_33 rfl hl (by decide) rfl (fun ls hl => ?_)
        obtain ⟨x_9, ex_9⟩ : ∃ y : Int32, y = (v3 + (1 : Int32)) := ⟨_, rfl⟩
        have hf := lt_at hf ex_9
        refine lv_iinc (v := x_9) (lv' := [(3, .int x_9), (1, .long x_8), (0, .ref (ad E 13))]) hx hb dX2_sumOfDelays_34 hl (k := 2) rfl (by rw [ex_9]; rfl) (by decide) rfl (fun ls hl => ?_)
        refine lv_goto (tgt := 4) hx hb dX2_sumOfDelays_37 (by decide) ?_
        exact ih x_8 x_9 σ_6 H locs ls hf I (lv_sub hl [2, 1, 0] rfl)
set_option maxHeartbeats 4000000 in
set_option maxRecDepth 100000 in
theorem c_X2_sumOfDelays (l : Launch) (E : En) (o : Int64)  (σ : St) {res : Int64 × St} (hf : f_X2_sumOfDelays σ = some res) : CL l yX2_sumOfDelays wsX2_sumOfDelays rm_X2_sumOfDelays E [.ref (ad E 13)] o σ res.1 res.2 := by
  intro sz
  refine Met.ofW (cc := cX2_sumOfDelays) (maxL := 4) (ret := (some .long)) (by decide) rfl ?_
  intro p e s m args below meth c s₁ B hml hv
  obtain ⟨rfl, hv⟩ := hv
  obtain ⟨rfl, hK, I⟩ := hv.start
  have C : Cx p c cX2_sumOfDelays 4 s m _ wsX2_sumOfDelays RX2 E := ⟨⟨B.exec, B.bytes, hml, findClass_of_methodNamed B.named, atoms_spec (ws := wsX2_sumOfDelays) B.pre⟩, hK⟩
  have hx := C.1.1
  have hb := C.1.2.1
  have hr := B.returns
  have hlocks := B.notSynchronized
  clear hv
  have hl := lv_entry ([.ref (ad E 13)]) (n := 4) (Nat.le_of_ble_eq_true rfl)
  rw [lg_entry_eq]
  generalize (lg_sl ([.ref (ad E 13)]) ++ List.replicate (4 - (lg_sl ([.ref (ad E 13)])).length) Slot.unset).toArray = ls at hl ⊢
  have hl : lv_has ls 4 [(0, .ref (ad E 13))] := hl
  generalize ([.ref (ad E 13)] : List Value).toArray = args at C ⊢
  refine g_begin I (fun H locs I => ?_)
  rw [f_X2_sumOfDelays] at hf
  refine lv_lconst (v := (0 : Int64)) hx hb dX2_sumOfDelays_0 (by decide) ?_
  refine lv_lstore_n (lv' := [(1, .long (0 : Int64)), (0, .ref (ad E 13))]) hx hb dX2_sumOfDelays_1 rfl hl (by decide) rfl (fun ls hl => ?_)
  refine lv_iconst (v := (0 : Int32)) hx hb dX2_sumOfDelays_2 (by decide) ?_
  refine lv_istore_n (lv' := [(3, .int (0 : Int32)), (1, .long (0 : Int64)), (0, .ref (ad E 13))]) hx hb dX2_sumOfDelays_3 rfl hl (by decide) rfl (fun ls hl => ?_)
  refine lp_X2_sumOfDelays_4 C hr hlocks _ ?_ _ (0 : Int64) (0 : Int32) σ H locs ls hf I (lv_sub hl [2, 1, 0] rfl)
  · intro y_10 σ_11 H locs ls hf I hl
    refine lv_lload_n hx hb dX2_sumOfDelays_40 rfl (lv_at hl 0 rfl) ?_
    exact g_lret C I hr hlocks hf dX2_sumOfDelays_41
abbrev rm_X2_hourOfMostLate : Room := { frames := 2, cells := 0, slots := 0, locals := 43 }
abbrev WW_X2_hourOfMostLate (p : Program) (l : Launch) (e : Env) (s : State) (m : MethodId) (args : Array Value) (below : List Frame) (meth : Method) (c : Code) (E : En) (o : Int64) (res : Int32 × St) (H : Heap) (locs : List Loc) (cells slots : Nat) (g : JFrame) : Prop := W p l e (headSpec wsX2_hourOfMostLate rm_X2_hourOfMostLate).room s m args below meth c H locs cells slots (MQ below (Qi E s.heap.size o res.1 res.2) args s 0 0 (AA E s.heap.size)) g
theorem k_X2_hourOfMostLate_43 : Cond.fieldLink RX2 43 "DaySimulate$Play" "lateInHour" "[I" ∈ wsX2_hourOfMostLate := by decide +kernel
theorem k_X2_hourOfMostLate_113 : Cond.fieldLink RX2 113 "DaySimulate$Day" "minute" "[I" ∈ wsX2_hourOfMostLate := by decide +kernel
theorem k_X2_hourOfMostLate_12 : Cond.fieldLink RX2 12 "DaySimulate$Play" "day" "LDaySimulate$Day;" ∈ wsX2_hourOfMostLate := by decide +kernel
theorem k_X2_hourOfMostLate_53 : Cond.fieldLink RX2 53 "DaySimulate$Day" "calls" "I" ∈ wsX2_hourOfMostLate := by decide +kernel
theorem in_X2_hourOfMostLate_X0 : ∀ w ∈ wsX00, w ∈ wsX2_hourOfMostLate := by decide +kernel
theorem in_X2_hourOfMostLate_X2 : ∀ w ∈ wsX20, w ∈ wsX2_hourOfMostLate := by decide +kernel
set_option maxHeartbeats 4000000 in
set_option maxRecDepth 100000 in
theorem lp_X2_hourOfMostLate_2 {l : Launch} {p : Program} {e : Env} {s : State} {m : MethodId} {args : Array Value} {below : List Frame} {meth : Method} {c : Code} {E : En} {o : Int64} {res : Int32 × St} (C : Cx p c cX2_hourOfMostLate 5 s m args wsX2_hourOfMostLate RX2 E) (hr : meth.sig.returnType = (some .int)) (hlocks : meth.locks = false) (b1 : Int32) (K21 : St → Option (Int32 × St)) (hK21 : ∀  (σ : St) (H : Heap) (locs : List Loc) (ls : Array Slot), K21 σ = some res → Iv E (AA E s.heap.size) s.heap o σ H locs → lv_has ls 5 [(0, .ref (ad E 13)), (1, .int b1)] → WW_X2_hourOfMostLate p l e s m args below meth c E o res H locs 0 0 (F0 m 21 ls [])) :
    ∀ (n : Nat) (v2 : Int32) (σ : St) (H : Heap) (locs : List Loc) (ls : Array Slot), f_X2_hourOfMostLate_L2 b1 K21 n v2 σ = some res → Iv E (AA E s.heap.size) s.heap o σ H locs → lv_has ls 5 [(0, .ref (ad E 13)), (1, .int b1), (2, .int v2)] → WW_X2_hourOfMostLate p l e s m args below meth c E o res H locs 0 0 (F0 m 2 ls []) := by
  have hx := C.1.1
  have hb := C.1.2.1
  intro n
  induction n with
  | zero => intro v2 σ H locs ls hf _ _; cases (show (none : Option (Int32 × St)) = some res from hf)
  | succ n ih =>
    intro v2 σ H locs ls hf I hl
    rw [f_X2_hourOfMostLate_L2] at hf
    refine lv_iload_n hx hb dX2_hourOfMostLate_2 rfl (lv_at hl 2 rfl) ?_
    refine lv_bipush (v := (24 : Int32)) hx hb dX2_hourOfMostLate_3 (by decide) ?_
    refine lv_icmp_ge (tgt := 21) hx hb dX2_hourOfMostLate_5 (by decide) (fun c_1 => ?_) (fun c_1 => ?_)
    · have hf := if_t hf c_1
      exact hK21  σ H locs ls hf I (lv_sub hl [0, 1] rfl)
    · have hf := if_f hf c_1
      refine lv_aload_n hx hb dX2_hourOfMostLate_8 rfl (lv_at hl 0 rfl) ?_
      refine g_get (k := 13) (v := .ref (ad E 33)) C I (by decide) (gk_13 E o _) rfl in_X2_hourOfMostLate_X2 8 (by decide) (C.1.2.2.2.2 _ k_X2_hourOfMostLate_43) rfl dX2_hourOfMostLate_9 ?_
      refine lv_iload_n hx hb dX2_hourOfMostLate_12 rfl (lv_at hl 2 rfl) ?_
      refine lv_iconst (v := (0 : Int32)) hx hb dX2_hourOfMostLate_13 (by decide) ?_
      obtain ⟨h_2, hf⟩ := ck_some hf
      refine g_iast (k := 33) C I (by decide) (gk_33 E o) (ixb_in h_2) dX2_hourOfMostLate_14 (fun H locs σ_3 eσ_3 I => ?_)
      have hf := lt_at hf eσ_3
      obtain ⟨x_4, ex_4⟩ : ∃ y : Int32, y = (v2 + (1 : Int32)) := ⟨_, rfl⟩
      have hf := lt_at hf ex_4
      refine lv_iinc (v := x_4) (lv' := [(2, .int x_4), (0, .ref (ad E 13)), (1, .int b1)]) hx hb dX2_hourOfMostLate_15 hl (k := 2) rfl (by rw [ex_4]; rfl) (by decide) rfl (fun ls hl => ?_)
      refine lv_goto (tgt := 2) hx hb dX2_hourOfMostLate_18 (by decide) ?_
      exact ih x_4 σ_3 H locs ls hf I (lv_sub hl [1, 2, 0] rfl)
set_option maxHeartbeats 4000000 in
set_option maxRecDepth 100000 in
theorem lp_X2_hourOfMostLate_23 {l : Launch} {p : Program} {e : Env} {s : State} {m : MethodId} {args : Array Value} {below : List Frame} {meth : Method} {c : Code} {E : En} {o : Int64} {res : Int32 × St} (C : Cx p c cX2_hourOfMostLate 5 s m args wsX2_hourOfMostLate RX2 E) (hr : meth.sig.returnType = (some .int)) (hlocks : meth.locks = false) (b1 : Int32) (K70 : St → Option (Int32 × St)) (hK70 : ∀  (σ : St) (H : Heap) (locs : List Loc) (ls : Array Slot), K70 σ = some res → Iv E (AA E s.heap.size) s.heap o σ H locs → lv_has ls 5 [(0, .ref (ad E 13))] → WW_X2_hourOfMostLate p l e s m args below meth c E o res H locs 0 0 (F0 m 70 ls [])) :
    ∀ (n : Nat) (v2 : Int32) (σ : St) (H : Heap) (locs : List Loc) (ls : Array Slot), f_X2_hourOfMostLate_L23 b1 K70 n v2 σ = some res → Iv E (AA E s.heap.size) s.heap o σ H locs → lv_has ls 5 [(0, .ref (ad E 13)), (1, .int b1), (2, .int v2)] → WW_X2_hourOfMostLate p l e s m args below meth c E o res H locs 0 0 (F0 m 23 ls []) := by
  have hx := C.1.1
  have hb := C.1.2.1
  intro n
  induction n with
  | zero => intro v2 σ H locs ls hf _ _; cases (show (none : Option (Int32 × St)) = some res from hf)
  | succ n ih =>
    intro v2 σ H locs ls hf I hl
    rw [f_X2_hourOfMostLate_L23] at hf
    refine lv_iload_n hx hb dX2_hourOfMostLate_23 rfl (lv_at hl 2 rfl) ?_
    refine lv_aload_n hx hb dX2_hourOfMostLate_24 rfl (lv_at hl 0 rfl) ?_
    refine g_get (k := 13) (v := .ref (ad E 34)) C I (by decide) (gk_13 E o _) rfl in_X2_hourOfMostLate_X2 0 (by decide) (C.1.2.2.2.2 _ k_X2_hourOfMostLate_12) rfl dX2_hourOfMostLate_25 ?_
    refine g_get (k := 34) (v := .int (σ 34 4)) C I (by decide) (gk_34 E o _) rfl in_X2_hourOfMostLate_X0 4 (by decide) (C.1.2.2.2.2 _ k_X2_hourOfMostLate_53) rfl dX2_hourOfMostLate_28 ?_
    refine lv_icmp_ge (tgt := 70) hx hb dX2_hourOfMostLate_31 (by decide) (fun c_6 => ?_) (fun c_6 => ?_)
    · have hf := if_t hf c_6
      exact hK70  σ H locs ls hf I (lv_sub hl [0] rfl)
    · have hf := if_f hf c_6
      refine lv_aload_n hx hb dX2_hourOfMostLate_34 rfl (lv_at hl 0 rfl) ?_
      refine lv_iload_n hx hb dX2_hourOfMostLate_35 rfl (lv_at hl 2 rfl) ?_
      refine lv_iload_n hx hb dX2_hourOfMostLate_36 rfl (lv_at hl 1 rfl) ?_
      obtain ⟨r_7, σ_8, hg_9, hf⟩ := bd_some hf
      refine g_cvi (av := [.int v2, .int b1]) (rest := []) (k := 13) C I AA.new (c_X2_isLate l E o v2 b1 σ hg_9) (cwV 2 C.1.2.2.2.2 gX2_hourOfMostLate_X2_isLate rfl rfl rfl (by decide +kernel) ⟨Nat.le_of_ble_eq_true rfl, Nat.le_of_ble_eq_true rfl⟩) (by decide) (gk_13 E o _) rfl rfl rfl hl.1 rfl (Nat.le_of_ble_eq_true rfl) ⟨Nat.le_of_ble_eq_true rfl, Nat.le_of_ble_eq_true rfl⟩ dX2_hourOfMostLate_37 (fun H locs I => ?_)
      refine lv_if_eq (tgt := 64) hx hb dX2_hourOfMostLate_40 (by decide) (fun c_10 => ?_) (fun c_10 => ?_)
      · have hf := if_t hf c_10
        obtain ⟨x_11, ex_11⟩ : ∃ y : Int32, y = (v2 + (1 : Int32)) := ⟨_, rfl⟩
        have hf := lt_at hf ex_11
        refine lv_iinc (v := x_11) (lv' := [(2, .int x_11), (0, .ref (ad E 13)), (1, .int b1)]) hx hb dX2_hourOfMostLate_64 hl (k := 2) rfl (by rw [ex_11]; rfl) (by decide) rfl (fun ls hl => ?_)
        refine lv_goto (tgt := 23) hx hb dX2_hourOfMostLate_67 (by decide) ?_
        exact ih x_11 σ_8 H locs ls hf I (lv_sub hl [1, 2, 0] rfl)
      · have hf := if_f hf c_10
        refine lv_aload_n hx hb dX2_hourOfMostLate_43 rfl (lv_at hl 0 rfl) ?_
        refine g_get (k := 13) (v := .ref (ad E 33)) C I (by decide) (gk_13 E o _) rfl in_X2_hourOfMostLate_X2 8 (by decide) (C.1.2.2.2.2 _ k_X2_hourOfMostLate_43) rfl dX2_hourOfMostLate_44 ?_
        refine lv_aload_n hx hb dX2_hourOfMostLate_47 rfl (lv_at hl 0 rfl) ?_
        refine g_get (k := 13) (v := .ref (ad E 34)) C I (by decide) (gk_13 E o _) rfl in_X2_hourOfMostLate_X2 0 (by decide) (C.1.2.2.2.2 _ k_X2_hourOfMostLate_12) rfl dX2_hourOfMostLate_48 ?_
        refine g_get (k := 34) (v := .ref (ad E 35)) C I (by decide) (gk_34 E o _) rfl in_X2_hourOfMostLate_X0 0 (by decide) (C.1.2.2.2.2 _ k_X2_hourOfMostLate_113) rfl dX2_hourOfMostLate_51 ?_
        refine lv_iload_n hx hb dX2_hourOfMostLate_54 rfl (lv_at hl 2 rfl) ?_
        obtain ⟨h_12, hf⟩ := ck_some hf
        refine g_iald (k := 35) C I (by decide) (gk_35 E o) (ixb_in h_12) dX2_hourOfMostLate_55 ?_
        refine lv_bipush (v := (60 : Int32)) hx hb dX2_hourOfMostLate_56 (by decide) ?_
        refine lv_idiv hx hb dX2_hourOfMostLate_58 (by decide) ?_
        refine lv_dup2_11 hx hb dX2_hourOfMostLate_59 rfl rfl ?_
        obtain ⟨h_13, hf⟩ := ck_some hf
        refine g_iald (k := 33) C I (by decide) (gk_33 E o) (ixb_in h_13) dX2_hourOfMostLate_60 ?_
        refine lv_iconst (v := (1 : Int32)) hx hb dX2_hourOfMostLate_61 (by decide) ?_
        refine lv_iadd hx hb dX2_hourOfMostLate_62 ?_
        obtain ⟨h_14, hf⟩ := ck_some hf
        refine g_iast (k := 33) C I (by decide) (gk_33 E o) (ixb_in h_14) dX2_hourOfMostLate_63 (fun H locs σ_15 eσ_15 I => ?_)
        have hf := lt_at hf eσ_15
        obtain ⟨x_16, ex_16⟩ : ∃ y : Int32, y = (v2 + (1 : Int32)) := ⟨_, rfl⟩
        have hf := lt_at hf ex_16
        refine lv_iinc (v := x_16) (lv' := [(2, .int x_16), (0, .ref (ad E 13)), (1, .int b1)]) hx hb dX2_hourOfMostLate_64 hl (k := 2) rfl (by rw [ex_16]; rfl) (by decide) rfl (fun ls hl => ?_)
        refine lv_goto (tgt := 23) hx hb dX2_hourOfMostLate_67 (by decide) ?_
        exact ih x_16 σ_15 H locs ls hf I (lv_sub hl [1, 2, 0] rfl)
set_option maxHeartbeats 4000000 in
set_option maxRecDepth 100000 in
theorem lp_X2_hourOfMostLate_77 {l : Launch} {p : Program} {e : Env} {s : State} {m : MethodId} {args : Array Value} {below : List Frame} {meth : Method} {c : Code} {E : En} {o : Int64} {res : Int32 × St} (C : Cx p c cX2_hourOfMostLate 5 s m args wsX2_hourOfMostLate RX2 E) (hr : meth.sig.returnType = (some .int)) (hlocks : meth.locks = false)  (K112 : Int32 → St → Option (Int32 × St)) (hK112 : ∀ (u2 : Int32) (σ : St) (H : Heap) (locs : List Loc) (ls : Array Slot), K112 u2 σ = some res → Iv E (AA E s.heap.size) s.heap o σ H locs → lv_has ls 5 [(2, .int u2)] → WW_X2_hourOfMostLate p l e s m args below meth c E o res H locs 0 0 (F0 m 112 ls [])) :
    ∀ (n : Nat) (v2 : Int32) (v3 : Int32) (v4 : Int32) (σ : St) (H : Heap) (locs : List Loc) (ls : Array Slot), f_X2_hourOfMostLate_L77 K112 n v2 v3 v4 σ = some res → Iv E (AA E s.heap.size) s.heap o σ H locs → lv_has ls 5 [(0, .ref (ad E 13)), (2, .int v2), (3, .int v3), (4, .int v4)] → WW_X2_hourOfMostLate p l e s m args below meth c E o res H locs 0 0 (F0 m 77 ls []) := by
  have hx := C.1.1
  have hb := C.1.2.1
  intro n
  induction n with
  | zero => intro v2 v3 v4 σ H locs ls hf _ _; cases (show (none : Option (Int32 × St)) = some res from hf)
  | succ n ih =>
    intro v2 v3 v4 σ H locs ls hf I hl
    rw [f_X2_hourOfMostLate_L77] at hf
    refine lv_iload hx hb dX2_hourOfMostLate_77 (lv_at hl 3 rfl) ?_
    refine lv_bipush (v := (24 : Int32)) hx hb dX2_hourOfMostLate_79 (by decide) ?_
    refine lv_icmp_ge (tgt := 112) hx hb dX2_hourOfMostLate_81 (by decide) (fun c_18 => ?_) (fun c_18 => ?_)
    · have hf := if_t hf c_18
      exact hK112 v2 σ H locs ls hf I (lv_sub hl [1] rfl)
    · have hf := if_f hf c_18
      refine lv_aload_n hx hb dX2_hourOfMostLate_84 rfl (lv_at hl 0 rfl) ?_
      refine g_get (k := 13) (v := .ref (ad E 33)) C I (by decide) (gk_13 E o _) rfl in_X2_hourOfMostLate_X2 8 (by decide) (C.1.2.2.2.2 _ k_X2_hourOfMostLate_43) rfl dX2_hourOfMostLate_85 ?_
      refine lv_iload hx hb dX2_hourOfMostLate_88 (lv_at hl 3 rfl) ?_
      obtain ⟨h_19, hf⟩ := ck_some hf
      refine g_iald (k := 33) C I (by decide) (gk_33 E o) (ixb_in h_19) dX2_hourOfMostLate_90 ?_
      refine lv_iload_n hx hb dX2_hourOfMostLate_91 rfl (lv_at hl 2 rfl) ?_
      refine lv_icmp_le (tgt := 106) hx hb dX2_hourOfMostLate_92 (by decide) (fun c_20 => ?_) (fun c_20 => ?_)
      · have hf := if_t hf c_20
        obtain ⟨x_21, ex_21⟩ : ∃ y : Int32, y = (v4 + (1 : Int32)) := ⟨_, rfl⟩
        have hf := lt_at hf ex_21
        refine lv_iinc (v := x_21) (lv' := [(4, .int x_21), (0, .ref (ad E 13)), (2, .int v2), (3, .int v3)]) hx hb dX2_hourOfMostLate_106 hl (k := 3) rfl (by rw [ex_21]; rfl) (by decide) rfl (fun ls hl => ?_)
        refine lv_goto (tgt := 77) hx hb dX2_hourOfMostLate_109 (by decide) ?_
        exact ih v2 v3 x_21 σ H locs ls hf I (lv_sub hl [1, 2, 3, 0] rfl)
      · have hf := if_f hf c_20
        refine lv_aload_n hx hb dX2_hourOfMostLate_95 rfl (lv_at hl 0 rfl) ?_
        refine g_get (k := 13) (v := .ref (ad E 33)) C I (by decide) (gk_13 E o _) rfl in_X2_hourOfMostLate_X2 8 (by decide) (C.1.2.2.2.2 _ k_X2_hourOfMostLate_43) rfl dX2_hourOfMostLate_96 ?_
        refine lv_iload hx hb dX2_hourOfMostLate_99 (lv_at hl 3 rfl) ?_
        obtain ⟨h_22, hf⟩ := ck_some hf
        refine g_iald (k := 33) C I (by decide) (gk_33 E o) (ixb_in h_22) dX2_hourOfMostLate_101 ?_
        refine lv_topi (fun x_23 ex_23 => ?_)
        have hf := lt_at hf ex_23
        refine lv_istore_n (lv' := [(3, .int x_23), (0, .ref (ad E 13)), (2, .int v2), (4, .int v4)]) hx hb dX2_hourOfMostLate_102 rfl hl (by decide) rfl (fun ls hl => ?_)
        refine lv_iload hx hb dX2_hourOfMostLate_103 (lv_at hl 3 rfl) ?_
        refine lv_istore_n (lv' := [(2, .int v4), (3, .int x_23), (0, .ref (ad E 13)), (4, .int v4)]) hx hb dX2_hourOfMostLate_105 rfl hl (by decide) rfl (fun ls hl => ?_)
        obtain ⟨x_24, ex_24⟩ : ∃ y : Int32, y = (v4 + (1 : Int32)) := ⟨_, rfl⟩
        have hf := lt_at hf ex_24
        refine lv_iinc (v := x_24) (lv' := [(4, .int x_24), (2, .int v4), (3, .int x_23), (0, .ref (ad E 13))]) hx hb dX2_hourOfMostLate_106 hl (k := 3) rfl (by rw [ex_24]; rfl) (by decide) rfl (fun ls hl => ?_)
        refine lv_goto (tgt := 77) hx hb dX2_hourOfMostLate_109 (by decide) ?_
        exact ih v4 x_23 x_24 σ H locs ls hf I (lv_sub hl [3, 1, 2, 0] rfl)
set_option maxHeartbeats 4000000 in
set_option maxRecDepth 100000 in
theorem c_X2_hourOfMostLate (l : Launch) (E : En) (o : Int64) (a1 : Int32) (σ : St) {res : Int32 × St} (hf : f_X2_hourOfMostLate a1 σ = some res) : CI l yX2_hourOfMostLate wsX2_hourOfMostLate rm_X2_hourOfMostLate E [.ref (ad E 13), .int a1] o σ res.1 res.2 := by
  intro sz
  refine Met.ofW (cc := cX2_hourOfMostLate) (maxL := 5) (ret := (some .int)) (by decide) rfl ?_
  intro p e s m args below meth c s₁ B hml hv
  obtain ⟨rfl, hv⟩ := hv
  obtain ⟨rfl, hK, I⟩ := hv.start
  have C : Cx p c cX2_hourOfMostLate 5 s m _ wsX2_hourOfMostLate RX2 E := ⟨⟨B.exec, B.bytes, hml, findClass_of_methodNamed B.named, atoms_spec (ws := wsX2_hourOfMostLate) B.pre⟩, hK⟩
  have hx := C.1.1
  have hb := C.1.2.1
  have hr := B.returns
  have hlocks := B.notSynchronized
  clear hv
  have hl := lv_entry ([.ref (ad E 13), .int a1]) (n := 5) (Nat.le_of_ble_eq_true rfl)
  rw [lg_entry_eq]
  generalize (lg_sl ([.ref (ad E 13), .int a1]) ++ List.replicate (5 - (lg_sl ([.ref (ad E 13), .int a1])).length) Slot.unset).toArray = ls at hl ⊢
  have hl : lv_has ls 5 [(0, .ref (ad E 13)), (1, .int a1)] := hl
  generalize ([.ref (ad E 13), .int a1] : List Value).toArray = args at C ⊢
  refine g_begin I (fun H locs I => ?_)
  rw [f_X2_hourOfMostLate] at hf
  refine lv_iconst (v := (0 : Int32)) hx hb dX2_hourOfMostLate_0 (by decide) ?_
  refine lv_istore_n (lv' := [(2, .int (0 : Int32)), (0, .ref (ad E 13)), (1, .int a1)]) hx hb dX2_hourOfMostLate_1 rfl hl (by decide) rfl (fun ls hl => ?_)
  refine lp_X2_hourOfMostLate_2 C hr hlocks a1 _ ?_ _ (0 : Int32) σ H locs ls hf I (lv_sub hl [1, 2, 0] rfl)
  · intro  σ_5 H locs ls hf I hl
    refine lv_iconst (v := (0 : Int32)) hx hb dX2_hourOfMostLate_21 (by decide) ?_
    refine lv_istore_n (lv' := [(2, .int (0 : Int32)), (0, .ref (ad E 13)), (1, .int a1)]) hx hb dX2_hourOfMostLate_22 rfl hl (by decide) rfl (fun ls hl => ?_)
    refine lp_X2_hourOfMostLate_23 C hr hlocks a1 _ ?_ _ (0 : Int32) σ_5 H locs ls hf I (lv_sub hl [1, 2, 0] rfl)
    · intro  σ_17 H locs ls hf I hl
      refine lv_iconst (v := (-1 : Int32)) hx hb dX2_hourOfMostLate_70 (by decide) ?_
      refine lv_istore_n (lv' := [(2, .int (-1 : Int32)), (0, .ref (ad E 13))]) hx hb dX2_hourOfMostLate_71 rfl hl (by decide) rfl (fun ls hl => ?_)
      refine lv_iconst (v := (0 : Int32)) hx hb dX2_hourOfMostLate_72 (by decide) ?_
      refine lv_istore_n (lv' := [(3, .int (0 : Int32)), (2, .int (-1 : Int32)), (0, .ref (ad E 13))]) hx hb dX2_hourOfMostLate_73 rfl hl (by decide) rfl (fun ls hl => ?_)
      refine lv_iconst (v := (0 : Int32)) hx hb dX2_hourOfMostLate_74 (by decide) ?_
      refine lv_istore (lv' := [(4, .int (0 : Int32)), (3, .int (0 : Int32)), (2, .int (-1 : Int32)), (0, .ref (ad E 13))]) hx hb dX2_hourOfMostLate_75 hl (by decide) rfl (fun ls hl => ?_)
      refine lp_X2_hourOfMostLate_77 C hr hlocks _ ?_ _ (-1 : Int32) (0 : Int32) (0 : Int32) σ_17 H locs ls hf I (lv_sub hl [3, 2, 1, 0] rfl)
      · intro y_25 σ_26 H locs ls hf I hl
        refine lv_iload_n hx hb dX2_hourOfMostLate_112 rfl (lv_at hl 0 rfl) ?_
        exact g_iret C I hr hlocks hf dX2_hourOfMostLate_113
