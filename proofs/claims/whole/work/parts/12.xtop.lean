/-! contracts, by wip/gen/walk.py -/
abbrev rm_X4_lateOn : Room := { frames := 4, cells := 0, slots := 0, locals := 94 }
abbrev WW_X4_lateOn (p : Program) (l : Launch) (e : Env) (s : State) (m : MethodId) (args : Array Value) (below : List Frame) (meth : Method) (c : Code) (E : En) (o : Int64) (res : Int32 × St) (H : Heap) (locs : List Loc) (cells slots : Nat) (g : JFrame) : Prop := W p l e (headSpec wsX4_lateOn rm_X4_lateOn).room s m args below meth c H locs cells slots (MQ below (Qi E s.heap.size o res.1 res.2) args s 0 0 (AA E s.heap.size)) g
theorem k_X4_lateOn_34 : Cond.fieldLink RX4 34 "DaySimulate" "mark" "I" ∈ wsX4_lateOn := by decide +kernel
theorem k_X4_lateOn_26 : Cond.fieldLink RX4 26 "DaySimulate" "play" "LDaySimulate$Play;" ∈ wsX4_lateOn := by decide +kernel
theorem k_X4_lateOn_30 : Cond.fieldLink RX4 30 "DaySimulate" "pace" "I" ∈ wsX4_lateOn := by decide +kernel
theorem k_X4_lateOn_19 : Cond.fieldLink RX4 19 "DaySimulate" "fleet" "LDaySimulate$Fleet;" ∈ wsX4_lateOn := by decide +kernel
theorem k_X4_lateOn_12 : Cond.fieldLink RX4 12 "DaySimulate" "town" "LDaySimulate$Town;" ∈ wsX4_lateOn := by decide +kernel
theorem k_X4_lateOn_97 : Cond.fieldLink RX4 97 "DaySimulate$Play" "day" "LDaySimulate$Day;" ∈ wsX4_lateOn := by decide +kernel
theorem in_X4_lateOn_X2 : ∀ w ∈ wsX20, w ∈ wsX4_lateOn := by decide +kernel
theorem in_X4_lateOn_X4 : ∀ w ∈ wsX40, w ∈ wsX4_lateOn := by decide +kernel
set_option maxHeartbeats 4000000 in
set_option maxRecDepth 100000 in
theorem c_X4_lateOn (l : Launch) (E : En) (o : Int64) (a1 : Int32) (a2 : Int32) (a3 : Int32) (a4 : Int32) (σ : St) {res : Int32 × St} (hf : f_X4_lateOn a1 a2 a3 a4 σ = some res) : CI l yX4_lateOn wsX4_lateOn rm_X4_lateOn E [.ref (ad E 0), .int a1, .int a2, .int a3, .int a4] o σ res.1 res.2 := by
  intro sz
  refine Met.ofW (cc := cX4_lateOn) (maxL := 5) (ret := (some .int)) (by decide) rfl ?_
  intro p e s m args below meth c s₁ B hml hv
  obtain ⟨rfl, hv⟩ := hv
  obtain ⟨rfl, hK, I⟩ := hv.start
  have C : Cx p c cX4_lateOn 5 s m _ wsX4_lateOn RX4 E := ⟨⟨B.exec, B.bytes, hml, findClass_of_methodNamed B.named, atoms_spec (ws := wsX4_lateOn) B.pre⟩, hK⟩
  have hx := C.1.1
  have hb := C.1.2.1
  have hr := B.returns
  have hlocks := B.notSynchronized
  clear hv
  have hl := lv_entry ([.ref (ad E 0), .int a1, .int a2, .int a3, .int a4]) (n := 5) (Nat.le_of_ble_eq_true rfl)
  rw [lg_entry_eq]
  generalize (lg_sl ([.ref (ad E 0), .int a1, .int a2, .int a3, .int a4]) ++ List.replicate (5 - (lg_sl ([.ref (ad E 0), .int a1, .int a2, .int a3, .int a4])).length) Slot.unset).toArray = ls at hl ⊢
  have hl : lv_has ls 5 [(0, .ref (ad E 0)), (1, .int a1), (2, .int a2), (3, .int a3), (4, .int a4)] := hl
  generalize ([.ref (ad E 0), .int a1, .int a2, .int a3, .int a4] : List Value).toArray = args at C ⊢
  refine g_begin I (fun H locs I => ?_)
  rw [f_X4_lateOn] at hf
  refine lv_aload_n hx hb dX4_lateOn_0 rfl (lv_at hl 0 rfl) ?_
  refine g_get (k := 0) (v := .ref (ad E 13)) C I (by decide) (gk_0 E o _) rfl in_X4_lateOn_X4 2 (by decide) (C.1.2.2.2.2 _ k_X4_lateOn_26) rfl dX4_lateOn_1 ?_
  refine g_get (k := 13) (v := .ref (ad E 34)) C I (by decide) (gk_13 E o _) rfl in_X4_lateOn_X2 0 (by decide) (C.1.2.2.2.2 _ k_X4_lateOn_97) rfl dX4_lateOn_4 ?_
  refine lv_aload_n hx hb dX4_lateOn_7 rfl (lv_at hl 0 rfl) ?_
  refine g_get (k := 0) (v := .ref (ad E 1)) C I (by decide) (gk_0 E o _) rfl in_X4_lateOn_X4 0 (by decide) (C.1.2.2.2.2 _ k_X4_lateOn_12) rfl dX4_lateOn_8 ?_
  refine lv_iload_n hx hb dX4_lateOn_11 rfl (lv_at hl 2 rfl) ?_
  refine lv_iload_n hx hb dX4_lateOn_12 rfl (lv_at hl 3 rfl) ?_
  refine lv_iload hx hb dX4_lateOn_13 (lv_at hl 4 rfl) ?_
  obtain ⟨r_1, σ_2, hg_3, hf⟩ := bd_some hf
  refine g_cvv (av := [.ref (ad E 1), .int a2, .int a3, .int a4]) (rest := []) (k := 34) C I AA.new (c_X0_draw l E o a2 a3 a4 σ hg_3) (cwV 4 C.1.2.2.2.2 gX4_lateOn_X0_draw rfl rfl rfl (by decide +kernel) ⟨Nat.le_of_ble_eq_true rfl, Nat.le_of_ble_eq_true rfl⟩) (by decide) (gk_34 E o _) rfl rfl rfl hl.1 rfl (Nat.le_of_ble_eq_true rfl) ⟨Nat.le_of_ble_eq_true rfl, Nat.le_of_ble_eq_true rfl⟩ dX4_lateOn_15 (fun H locs I => ?_)
  refine lv_aload_n hx hb dX4_lateOn_18 rfl (lv_at hl 0 rfl) ?_
  refine g_get (k := 0) (v := .ref (ad E 13)) C I (by decide) (gk_0 E o _) rfl in_X4_lateOn_X4 2 (by decide) (C.1.2.2.2.2 _ k_X4_lateOn_26) rfl dX4_lateOn_19 ?_
  refine lv_aload_n hx hb dX4_lateOn_22 rfl (lv_at hl 0 rfl) ?_
  refine g_get (k := 0) (v := .ref (ad E 1)) C I (by decide) (gk_0 E o _) rfl in_X4_lateOn_X4 0 (by decide) (C.1.2.2.2.2 _ k_X4_lateOn_12) rfl dX4_lateOn_23 ?_
  refine lv_aload_n hx hb dX4_lateOn_26 rfl (lv_at hl 0 rfl) ?_
  refine g_get (k := 0) (v := .ref (ad E 7)) C I (by decide) (gk_0 E o _) rfl in_X4_lateOn_X4 1 (by decide) (C.1.2.2.2.2 _ k_X4_lateOn_19) rfl dX4_lateOn_27 ?_
  refine lv_iload_n hx hb dX4_lateOn_30 rfl (lv_at hl 1 rfl) ?_
  refine lv_aload_n hx hb dX4_lateOn_31 rfl (lv_at hl 0 rfl) ?_
  refine g_get (k := 0) (v := .int (σ_2 0 3)) C I (by decide) (gk_0 E o _) rfl in_X4_lateOn_X4 3 (by decide) (C.1.2.2.2.2 _ k_X4_lateOn_30) rfl dX4_lateOn_32 ?_
  obtain ⟨r_4, σ_5, hg_6, hf⟩ := bd_some hf
  refine g_cvv (av := [.ref (ad E 1), .ref (ad E 7), .int a1, .int (σ_2 0 3)]) (rest := []) (k := 13) C I AA.new (c_X2_begin l E o a1 ((σ_2 0 3)) σ_2 hg_6) (cwV 4 C.1.2.2.2.2 gX4_lateOn_X2_begin rfl rfl rfl (by decide +kernel) ⟨Nat.le_of_ble_eq_true rfl, Nat.le_of_ble_eq_true rfl⟩) (by decide) (gk_13 E o _) rfl rfl rfl hl.1 rfl (Nat.le_of_ble_eq_true rfl) ⟨Nat.le_of_ble_eq_true rfl, Nat.le_of_ble_eq_true rfl⟩ dX4_lateOn_35 (fun H locs I => ?_)
  refine lv_aload_n hx hb dX4_lateOn_38 rfl (lv_at hl 0 rfl) ?_
  refine g_get (k := 0) (v := .ref (ad E 13)) C I (by decide) (gk_0 E o _) rfl in_X4_lateOn_X4 2 (by decide) (C.1.2.2.2.2 _ k_X4_lateOn_26) rfl dX4_lateOn_39 ?_
  obtain ⟨r_7, σ_8, hg_9, hf⟩ := bd_some hf
  refine g_cvv (av := []) (rest := []) (k := 13) C I AA.new (c_X2_playOut l E o σ_5 hg_9) (cwV 0 C.1.2.2.2.2 gX4_lateOn_X2_playOut rfl rfl rfl (by decide +kernel) ⟨Nat.le_of_ble_eq_true rfl, Nat.le_of_ble_eq_true rfl⟩) (by decide) (gk_13 E o _) rfl rfl rfl hl.1 rfl (Nat.le_of_ble_eq_true rfl) ⟨Nat.le_of_ble_eq_true rfl, Nat.le_of_ble_eq_true rfl⟩ dX4_lateOn_42 (fun H locs I => ?_)
  refine lv_aload_n hx hb dX4_lateOn_45 rfl (lv_at hl 0 rfl) ?_
  refine g_get (k := 0) (v := .ref (ad E 13)) C I (by decide) (gk_0 E o _) rfl in_X4_lateOn_X4 2 (by decide) (C.1.2.2.2.2 _ k_X4_lateOn_26) rfl dX4_lateOn_46 ?_
  refine lv_aload_n hx hb dX4_lateOn_49 rfl (lv_at hl 0 rfl) ?_
  refine g_get (k := 0) (v := .int (σ_8 0 4)) C I (by decide) (gk_0 E o _) rfl in_X4_lateOn_X4 4 (by decide) (C.1.2.2.2.2 _ k_X4_lateOn_34) rfl dX4_lateOn_50 ?_
  obtain ⟨r_10, σ_11, hg_12, hf⟩ := bd_some hf
  refine g_cvi (av := [.int (σ_8 0 4)]) (rest := []) (k := 13) C I AA.new (c_X2_countLate l E o ((σ_8 0 4)) σ_8 hg_12) (cwV 1 C.1.2.2.2.2 gX4_lateOn_X2_countLate rfl rfl rfl (by decide +kernel) ⟨Nat.le_of_ble_eq_true rfl, Nat.le_of_ble_eq_true rfl⟩) (by decide) (gk_13 E o _) rfl rfl rfl hl.1 rfl (Nat.le_of_ble_eq_true rfl) ⟨Nat.le_of_ble_eq_true rfl, Nat.le_of_ble_eq_true rfl⟩ dX4_lateOn_53 (fun H locs I => ?_)
  exact g_iret C I hr hlocks hf dX4_lateOn_56
abbrev rm_X4_missed : Room := { frames := 0, cells := 0, slots := 0, locals := 0 }
abbrev WW_X4_missed (p : Program) (l : Launch) (e : Env) (s : State) (m : MethodId) (args : Array Value) (below : List Frame) (meth : Method) (c : Code) (E : En) (o : Int64) (res : Int32 × St) (H : Heap) (locs : List Loc) (cells slots : Nat) (g : JFrame) : Prop := W p l e (headSpec wsX4_missed rm_X4_missed).room s m args below meth c H locs cells slots (MQ below (Qi E s.heap.size o res.1 res.2) args s 0 0 (AA E s.heap.size)) g
theorem k_X4_missed_156 : Cond.fieldLink RX4 156 "DaySimulate$Play" "missedMinutes" "I" ∈ wsX4_missed := by decide +kernel
theorem k_X4_missed_26 : Cond.fieldLink RX4 26 "DaySimulate" "play" "LDaySimulate$Play;" ∈ wsX4_missed := by decide +kernel
theorem in_X4_missed_X2 : ∀ w ∈ wsX20, w ∈ wsX4_missed := by decide +kernel
theorem in_X4_missed_X4 : ∀ w ∈ wsX40, w ∈ wsX4_missed := by decide +kernel
set_option maxHeartbeats 4000000 in
set_option maxRecDepth 100000 in
theorem c_X4_missed (l : Launch) (E : En) (o : Int64)  (σ : St) {res : Int32 × St} (hf : f_X4_missed σ = some res) : CI l yX4_missed wsX4_missed rm_X4_missed E [.ref (ad E 0)] o σ res.1 res.2 := by
  intro sz
  refine Met.ofW (cc := cX4_missed) (maxL := 1) (ret := (some .int)) (by decide) rfl ?_
  intro p e s m args below meth c s₁ B hml hv
  obtain ⟨rfl, hv⟩ := hv
  obtain ⟨rfl, hK, I⟩ := hv.start
  have C : Cx p c cX4_missed 1 s m _ wsX4_missed RX4 E := ⟨⟨B.exec, B.bytes, hml, findClass_of_methodNamed B.named, atoms_spec (ws := wsX4_missed) B.pre⟩, hK⟩
  have hx := C.1.1
  have hb := C.1.2.1
  have hr := B.returns
  have hlocks := B.notSynchronized
  clear hv
  have hl := lv_entry ([.ref (ad E 0)]) (n := 1) (Nat.le_of_ble_eq_true rfl)
  rw [lg_entry_eq]
  generalize (lg_sl ([.ref (ad E 0)]) ++ List.replicate (1 - (lg_sl ([.ref (ad E 0)])).length) Slot.unset).toArray = ls at hl ⊢
  have hl : lv_has ls 1 [(0, .ref (ad E 0))] := hl
  generalize ([.ref (ad E 0)] : List Value).toArray = args at C ⊢
  refine g_begin I (fun H locs I => ?_)
  rw [f_X4_missed] at hf
  refine lv_aload_n hx hb dX4_missed_0 rfl (lv_at hl 0 rfl) ?_
  refine g_get (k := 0) (v := .ref (ad E 13)) C I (by decide) (gk_0 E o _) rfl in_X4_missed_X4 2 (by decide) (C.1.2.2.2.2 _ k_X4_missed_26) rfl dX4_missed_1 ?_
  refine g_get (k := 13) (v := .int (σ 13 10)) C I (by decide) (gk_13 E o _) rfl in_X4_missed_X2 10 (by decide) (C.1.2.2.2.2 _ k_X4_missed_156) rfl dX4_missed_4 ?_
  exact g_iret C I hr hlocks hf dX4_missed_7
abbrev rm_X4_worst : Room := { frames := 3, cells := 0, slots := 0, locals := 67 }
abbrev WW_X4_worst (p : Program) (l : Launch) (e : Env) (s : State) (m : MethodId) (args : Array Value) (below : List Frame) (meth : Method) (c : Code) (E : En) (o : Int64) (res : Int32 × St) (H : Heap) (locs : List Loc) (cells slots : Nat) (g : JFrame) : Prop := W p l e (headSpec wsX4_worst rm_X4_worst).room s m args below meth c H locs cells slots (MQ below (Qi E s.heap.size o res.1 res.2) args s 0 0 (AA E s.heap.size)) g
theorem k_X4_worst_34 : Cond.fieldLink RX4 34 "DaySimulate" "mark" "I" ∈ wsX4_worst := by decide +kernel
theorem k_X4_worst_26 : Cond.fieldLink RX4 26 "DaySimulate" "play" "LDaySimulate$Play;" ∈ wsX4_worst := by decide +kernel
theorem in_X4_worst_X4 : ∀ w ∈ wsX40, w ∈ wsX4_worst := by decide +kernel
set_option maxHeartbeats 4000000 in
set_option maxRecDepth 100000 in
theorem c_X4_worst (l : Launch) (E : En) (o : Int64)  (σ : St) {res : Int32 × St} (hf : f_X4_worst σ = some res) : CI l yX4_worst wsX4_worst rm_X4_worst E [.ref (ad E 0)] o σ res.1 res.2 := by
  intro sz
  refine Met.ofW (cc := cX4_worst) (maxL := 1) (ret := (some .int)) (by decide) rfl ?_
  intro p e s m args below meth c s₁ B hml hv
  obtain ⟨rfl, hv⟩ := hv
  obtain ⟨rfl, hK, I⟩ := hv.start
  have C : Cx p c cX4_worst 1 s m _ wsX4_worst RX4 E := ⟨⟨B.exec, B.bytes, hml, findClass_of_methodNamed B.named, atoms_spec (ws := wsX4_worst) B.pre⟩, hK⟩
  have hx := C.1.1
  have hb := C.1.2.1
  have hr := B.returns
  have hlocks := B.notSynchronized
  clear hv
  have hl := lv_entry ([.ref (ad E 0)]) (n := 1) (Nat.le_of_ble_eq_true rfl)
  rw [lg_entry_eq]
  generalize (lg_sl ([.ref (ad E 0)]) ++ List.replicate (1 - (lg_sl ([.ref (ad E 0)])).length) Slot.unset).toArray = ls at hl ⊢
  have hl : lv_has ls 1 [(0, .ref (ad E 0))] := hl
  generalize ([.ref (ad E 0)] : List Value).toArray = args at C ⊢
  refine g_begin I (fun H locs I => ?_)
  rw [f_X4_worst] at hf
  refine lv_aload_n hx hb dX4_worst_0 rfl (lv_at hl 0 rfl) ?_
  refine g_get (k := 0) (v := .ref (ad E 13)) C I (by decide) (gk_0 E o _) rfl in_X4_worst_X4 2 (by decide) (C.1.2.2.2.2 _ k_X4_worst_26) rfl dX4_worst_1 ?_
  refine lv_aload_n hx hb dX4_worst_4 rfl (lv_at hl 0 rfl) ?_
  refine g_get (k := 0) (v := .int (σ 0 4)) C I (by decide) (gk_0 E o _) rfl in_X4_worst_X4 4 (by decide) (C.1.2.2.2.2 _ k_X4_worst_34) rfl dX4_worst_5 ?_
  obtain ⟨r_1, σ_2, hg_3, hf⟩ := bd_some hf
  refine g_cvi (av := [.int (σ 0 4)]) (rest := []) (k := 13) C I AA.new (c_X2_hourOfMostLate l E o ((σ 0 4)) σ hg_3) (cwV 1 C.1.2.2.2.2 gX4_worst_X2_hourOfMostLate rfl rfl rfl (by decide +kernel) ⟨Nat.le_of_ble_eq_true rfl, Nat.le_of_ble_eq_true rfl⟩) (by decide) (gk_13 E o _) rfl rfl rfl hl.1 rfl (Nat.le_of_ble_eq_true rfl) ⟨Nat.le_of_ble_eq_true rfl, Nat.le_of_ble_eq_true rfl⟩ dX4_worst_8 (fun H locs I => ?_)
  exact g_iret C I hr hlocks hf dX4_worst_11
