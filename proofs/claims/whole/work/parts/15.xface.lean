/-! contracts, by wip/gen/walk.py -/
abbrev rm_X4_needRange : Room := { frames := 6, cells := 1, slots := 6, locals := 82 }
abbrev WW_X4_needRange (p : Program) (l : Launch) (e : Env) (s : State) (m : MethodId) (args : Array Value) (below : List Frame) (meth : Method) (c : Code) (E : En) (o : Int64) (res : Ex × St) (H : Heap) (locs : List Loc) (cells slots : Nat) (g : JFrame) : Prop := W p l e (headSpec wsX4_needRange rm_X4_needRange).room s m args below meth c H locs cells slots (vx_MQ below (Qxv E s.heap.size o res) (XX E s.heap.size o res) args s 1 6 (AA E s.heap.size)) g
theorem k_X4_needRange_195 : Cond.classLink RX4 195 "java/lang/IndexOutOfBoundsException" ∈ wsX4_needRange := by decide +kernel
theorem k_X4_needRange_ini195 : Cond.initialized "java/lang/IndexOutOfBoundsException" ∈ wsX4_needRange := by decide +kernel
theorem at_X4_needRange_199 : ∀ w ∈ (vx_atS RX4 199 "java/lang/IndexOutOfBoundsException" RTN).filter goodWord, w ∈ wsX4_needRange := by decide +kernel
set_option maxHeartbeats 4000000 in
set_option maxRecDepth 100000 in
theorem c_X4_needRange (l : Launch) (hst : l.stackTraces = false) (E : En) (o : Int64) (a0 : Int32) (σ : St) {res : Ex × St} (hf : f_X4_needRange a0 σ = some res) : CXV l yX4_needRange wsX4_needRange rm_X4_needRange E [.int a0] o σ 1 6 res := by
  intro sz
  refine vx_ofW (cc := cX4_needRange) (maxL := 1) (ret := none) (by decide) rfl ?_
  intro p e s m args below meth c s₁ B hml hex hv
  obtain ⟨rfl, hv, hZ, hN⟩ := hv
  obtain ⟨rfl, hK, I⟩ := hv.start
  have C : Cx p c cX4_needRange 1 s m _ wsX4_needRange RX4 E := ⟨⟨B.exec, B.bytes, hml, findClass_of_methodNamed B.named, atoms_spec (ws := wsX4_needRange) B.pre⟩, hK⟩
  have hx := C.1.1
  have hb := C.1.2.1
  have hr := B.returns
  have hlocks := B.notSynchronized
  clear hv
  have hl := lv_entry ([.int a0]) (n := 1) (Nat.le_of_ble_eq_true rfl)
  rw [lg_entry_eq]
  generalize (lg_sl ([.int a0]) ++ List.replicate (1 - (lg_sl ([.int a0])).length) Slot.unset).toArray = ls at hl ⊢
  have hl : lv_has ls 1 [(0, .int a0)] := hl
  generalize ([.int a0] : List Value).toArray = args at C ⊢
  refine g_begin I (fun H locs I => ?_)
  rw [f_X4_needRange] at hf
  refine lv_iload_n hx hb dX4_needRange_0 rfl (lv_at hl 0 rfl) ?_
  refine lv_if_ne (tgt := 14) hx hb dX4_needRange_1 (by decide) (fun c_1 => ?_) (fun c_1 => ?_)
  · have hf := if_f hf c_1
    exact g_xvret C I hr hlocks (Nat.le_of_ble_eq_true rfl) (Nat.le_of_ble_eq_true rfl) hf dX4_needRange_14
  · have hf := if_t hf c_1
    exact g_throw (text := "number outside its range") C I hst hZ hN hex hlocks hl.1 (by decide) (by decide) (by decide) k_X4_needRange_195 k_X4_needRange_ini195 at_X4_needRange_199 ng_199 gd_199_195 dX4_needRange_4 dX4_needRange_7 dX4_needRange_8 dX4_needRange_10 dX4_needRange_13 (Nat.le_of_ble_eq_true rfl) (Nat.le_of_ble_eq_true rfl) (Nat.le_of_ble_eq_true rfl) (Nat.le_of_ble_eq_true rfl) (Nat.le_of_ble_eq_true rfl) (Nat.le_of_ble_eq_true rfl) hf
abbrev rm_X4_needRoom : Room := { frames := 6, cells := 1, slots := 6, locals := 82 }
abbrev WW_X4_needRoom (p : Program) (l : Launch) (e : Env) (s : State) (m : MethodId) (args : Array Value) (below : List Frame) (meth : Method) (c : Code) (E : En) (o : Int64) (res : Ex × St) (H : Heap) (locs : List Loc) (cells slots : Nat) (g : JFrame) : Prop := W p l e (headSpec wsX4_needRoom rm_X4_needRoom).room s m args below meth c H locs cells slots (vx_MQ below (Qxv E s.heap.size o res) (XX E s.heap.size o res) args s 1 6 (AA E s.heap.size)) g
theorem k_X4_needRoom_205 : Cond.classLink RX4 205 "java/lang/UnsupportedOperationException" ∈ wsX4_needRoom := by decide +kernel
theorem k_X4_needRoom_ini205 : Cond.initialized "java/lang/UnsupportedOperationException" ∈ wsX4_needRoom := by decide +kernel
theorem at_X4_needRoom_209 : ∀ w ∈ (vx_atS RX4 209 "java/lang/UnsupportedOperationException" RTN).filter goodWord, w ∈ wsX4_needRoom := by decide +kernel
set_option maxHeartbeats 4000000 in
set_option maxRecDepth 100000 in
theorem c_X4_needRoom (l : Launch) (hst : l.stackTraces = false) (E : En) (o : Int64) (a0 : Int32) (σ : St) {res : Ex × St} (hf : f_X4_needRoom a0 σ = some res) : CXV l yX4_needRoom wsX4_needRoom rm_X4_needRoom E [.int a0] o σ 1 6 res := by
  intro sz
  refine vx_ofW (cc := cX4_needRoom) (maxL := 1) (ret := none) (by decide) rfl ?_
  intro p e s m args below meth c s₁ B hml hex hv
  obtain ⟨rfl, hv, hZ, hN⟩ := hv
  obtain ⟨rfl, hK, I⟩ := hv.start
  have C : Cx p c cX4_needRoom 1 s m _ wsX4_needRoom RX4 E := ⟨⟨B.exec, B.bytes, hml, findClass_of_methodNamed B.named, atoms_spec (ws := wsX4_needRoom) B.pre⟩, hK⟩
  have hx := C.1.1
  have hb := C.1.2.1
  have hr := B.returns
  have hlocks := B.notSynchronized
  clear hv
  have hl := lv_entry ([.int a0]) (n := 1) (Nat.le_of_ble_eq_true rfl)
  rw [lg_entry_eq]
  generalize (lg_sl ([.int a0]) ++ List.replicate (1 - (lg_sl ([.int a0])).length) Slot.unset).toArray = ls at hl ⊢
  have hl : lv_has ls 1 [(0, .int a0)] := hl
  generalize ([.int a0] : List Value).toArray = args at C ⊢
  refine g_begin I (fun H locs I => ?_)
  rw [f_X4_needRoom] at hf
  refine lv_iload_n hx hb dX4_needRoom_0 rfl (lv_at hl 0 rfl) ?_
  refine lv_if_ne (tgt := 14) hx hb dX4_needRoom_1 (by decide) (fun c_1 => ?_) (fun c_1 => ?_)
  · have hf := if_f hf c_1
    exact g_xvret C I hr hlocks (Nat.le_of_ble_eq_true rfl) (Nat.le_of_ble_eq_true rfl) hf dX4_needRoom_14
  · have hf := if_t hf c_1
    exact g_throw (text := "no room") C I hst hZ hN hex hlocks hl.1 (by decide) (by decide) (by decide) k_X4_needRoom_205 k_X4_needRoom_ini205 at_X4_needRoom_209 ng_209 gd_209_205 dX4_needRoom_4 dX4_needRoom_7 dX4_needRoom_8 dX4_needRoom_10 dX4_needRoom_13 (Nat.le_of_ble_eq_true rfl) (Nat.le_of_ble_eq_true rfl) (Nat.le_of_ble_eq_true rfl) (Nat.le_of_ble_eq_true rfl) (Nat.le_of_ble_eq_true rfl) (Nat.le_of_ble_eq_true rfl) hf
abbrev rm_X4_station : Room := { frames := 7, cells := 2, slots := 12, locals := 102 }
abbrev WW_X4_station (p : Program) (l : Launch) (e : Env) (s : State) (m : MethodId) (args : Array Value) (below : List Frame) (meth : Method) (c : Code) (E : En) (o : Int64) (res : Ex × St) (H : Heap) (locs : List Loc) (cells slots : Nat) (g : JFrame) : Prop := W p l e (headSpec wsX4_station rm_X4_station).room s m args below meth c H locs cells slots (vx_MQ below (Qxi E s.heap.size o res) (XX E s.heap.size o res) args s 2 12 (AA E s.heap.size)) g
theorem k_X4_station_12 : Cond.fieldLink RX4 12 "DaySimulate" "town" "LDaySimulate$Town;" ∈ wsX4_station := by decide +kernel
theorem k_X4_station_45 : Cond.fieldLink RX4 45 "DaySimulate$Town" "stations" "I" ∈ wsX4_station := by decide +kernel
theorem in_X4_station_X3 : ∀ w ∈ wsX30, w ∈ wsX4_station := by decide +kernel
theorem in_X4_station_X4 : ∀ w ∈ wsX40, w ∈ wsX4_station := by decide +kernel
set_option maxHeartbeats 4000000 in
set_option maxRecDepth 100000 in
theorem c_X4_station (l : Launch) (hst : l.stackTraces = false) (E : En) (o : Int64) (a1 : Int32) (a2 : Int32) (σ : St) {res : Ex × St} (hf : f_X4_station a1 a2 σ = some res) : CXI l yX4_station wsX4_station rm_X4_station E [.ref (ad E 0), .int a1, .int a2] o σ 2 12 res := by
  intro sz
  refine vx_ofW (cc := cX4_station) (maxL := 3) (ret := (some .int)) (by decide) rfl ?_
  intro p e s m args below meth c s₁ B hml hex hv
  obtain ⟨rfl, hv, hZ, hN⟩ := hv
  obtain ⟨rfl, hK, I⟩ := hv.start
  have C : Cx p c cX4_station 3 s m _ wsX4_station RX4 E := ⟨⟨B.exec, B.bytes, hml, findClass_of_methodNamed B.named, atoms_spec (ws := wsX4_station) B.pre⟩, hK⟩
  have hx := C.1.1
  have hb := C.1.2.1
  have hr := B.returns
  have hlocks := B.notSynchronized
  clear hv
  have hl := lv_entry ([.ref (ad E 0), .int a1, .int a2]) (n := 3) (Nat.le_of_ble_eq_true rfl)
  rw [lg_entry_eq]
  generalize (lg_sl ([.ref (ad E 0), .int a1, .int a2]) ++ List.replicate (3 - (lg_sl ([.ref (ad E 0), .int a1, .int a2])).length) Slot.unset).toArray = ls at hl ⊢
  have hl : lv_has ls 3 [(0, .ref (ad E 0)), (1, .int a1), (2, .int a2)] := hl
  generalize ([.ref (ad E 0), .int a1, .int a2] : List Value).toArray = args at C ⊢
  refine g_begin I (fun H locs I => ?_)
  rw [f_X4_station] at hf
  refine lv_iload_n hx hb dX4_station_0 rfl (lv_at hl 1 rfl) ?_
  refine lv_iload_n hx hb dX4_station_1 rfl (lv_at hl 2 rfl) ?_
  obtain ⟨r_1, σ_2, hg_3, hf⟩ := bd_some hf
  refine g_csi (av := [.int a1, .int a2]) (rest := []) C I AA.new (c_X4_isPlace l E o a1 a2 σ hg_3) (cwS 2 C.1.2.2.2.2 gX4_station_X4_isPlace rfl rfl rfl (by decide +kernel) ⟨Nat.le_of_ble_eq_true rfl, Nat.le_of_ble_eq_true rfl⟩) rfl hl.1 rfl (Nat.le_of_ble_eq_true rfl) ⟨Nat.le_of_ble_eq_true rfl, Nat.le_of_ble_eq_true rfl⟩ dX4_station_2 (fun H locs I => ?_)
  obtain ⟨rc_10, hg_6, hn_7, ht_8⟩ := bx_some hf
  refine g_xsv (av := [.int r_1]) (rest := []) C I hZ hN hex hlocks (c_X4_needRange l hst E o r_1 σ_2 hg_6) (cwS 1 C.1.2.2.2.2 gX4_station_X4_needRange rfl rfl rfl (by decide +kernel) ⟨Nat.le_of_ble_eq_true rfl, Nat.le_of_ble_eq_true rfl⟩) rfl hl.1 rfl (Nat.le_of_ble_eq_true rfl) ⟨Nat.le_of_ble_eq_true rfl, Nat.le_of_ble_eq_true rfl⟩ (Nat.le_of_ble_eq_true rfl) (Nat.le_of_ble_eq_true rfl) ht_8 dX4_station_5 (fun r_4 σ_5 H locs er_9 I => ?_)
  have hf := hn_7 r_4 σ_5 er_9
  refine lv_aload_n hx hb dX4_station_8 rfl (lv_at hl 0 rfl) ?_
  refine g_get (k := 0) (v := .ref (ad E 1)) C I (by decide) (gk_0 E o _) rfl in_X4_station_X4 0 (by decide) (C.1.2.2.2.2 _ k_X4_station_12) rfl dX4_station_9 ?_
  refine g_get (k := 1) (v := .int (σ_5 1 5)) C I (by decide) (gk_1 E o _) rfl in_X4_station_X3 5 (by decide) (C.1.2.2.2.2 _ k_X4_station_45) rfl dX4_station_12 ?_
  refine lv_bipush (v := (6 : Int32)) hx hb dX4_station_15 (by decide) ?_
  obtain ⟨J_12, eJ_12, hf⟩ := lt_split hf
  have hJ_12 : ∀ (y_13 : Int32) (σ_14 : St) (H : Heap) (locs : List Loc) (ls : Array Slot), J_12 y_13 σ_14 = some res → Iv E (AA E s.heap.size) s.heap o σ_14 H locs → lv_has ls 3 [(0, .ref (ad E 0)), (1, .int a1), (2, .int a2)] → WW_X4_station p l e s m args below meth c E o res H locs 1 6 (F0 m 25 ls [.int y_13]) := by
    intro y_13 σ_14 H locs ls hf I hl
    rw [eJ_12] at hf
    obtain ⟨rc_21, hg_17, hn_18, ht_19⟩ := bx_some hf
    refine g_xsv (av := [.int y_13]) (rest := []) C I hZ hN hex hlocks (c_X4_needRoom l hst E o y_13 σ_14 hg_17) (cwS 1 C.1.2.2.2.2 gX4_station_X4_needRoom rfl rfl rfl (by decide +kernel) ⟨Nat.le_of_ble_eq_true rfl, Nat.le_of_ble_eq_true rfl⟩) rfl hl.1 rfl (Nat.le_of_ble_eq_true rfl) ⟨Nat.le_of_ble_eq_true rfl, Nat.le_of_ble_eq_true rfl⟩ (Nat.le_of_ble_eq_true rfl) (Nat.le_of_ble_eq_true rfl) ht_19 dX4_station_25 (fun r_15 σ_16 H locs er_20 I => ?_)
    have hf := hn_18 r_15 σ_16 er_20
    refine lv_aload_n hx hb dX4_station_28 rfl (lv_at hl 0 rfl) ?_
    refine g_get (k := 0) (v := .ref (ad E 1)) C I (by decide) (gk_0 E o _) rfl in_X4_station_X4 0 (by decide) (C.1.2.2.2.2 _ k_X4_station_12) rfl dX4_station_29 ?_
    refine lv_iload_n hx hb dX4_station_32 rfl (lv_at hl 1 rfl) ?_
    refine lv_iload_n hx hb dX4_station_33 rfl (lv_at hl 2 rfl) ?_
    obtain ⟨r_22, σ_23, hg_24, hf⟩ := bd_some hf
    refine g_cvi (av := [.int a1, .int a2]) (rest := []) (k := 1) C I AA.new (c_X3_addStation l E o a1 a2 σ_16 hg_24) (cwV 2 C.1.2.2.2.2 gX4_station_X3_addStation rfl rfl rfl (by decide +kernel) ⟨Nat.le_of_ble_eq_true rfl, Nat.le_of_ble_eq_true rfl⟩) (by decide) (gk_1 E o _) rfl rfl rfl hl.1 rfl (Nat.le_of_ble_eq_true rfl) ⟨Nat.le_of_ble_eq_true rfl, Nat.le_of_ble_eq_true rfl⟩ dX4_station_34 (fun H locs I => ?_)
    exact g_xiret C I hr hlocks (Nat.le_of_ble_eq_true rfl) (Nat.le_of_ble_eq_true rfl) hf dX4_station_37
  refine lv_icmp_ge (tgt := 24) hx hb dX4_station_17 (by decide) (fun c_11 => ?_) (fun c_11 => ?_)
  · have hf := if_t hf c_11
    refine lv_iconst (v := (0 : Int32)) hx hb dX4_station_24 (by decide) ?_
    exact hJ_12 _ σ_5 H locs ls hf I (lv_sub hl [0, 1, 2] rfl)
  · have hf := if_f hf c_11
    refine lv_iconst (v := (1 : Int32)) hx hb dX4_station_20 (by decide) ?_
    refine lv_goto (tgt := 25) hx hb dX4_station_21 (by decide) ?_
    exact hJ_12 _ σ_5 H locs ls hf I (lv_sub hl [0, 1, 2] rfl)
abbrev rm_X4_area : Room := { frames := 7, cells := 2, slots := 12, locals := 102 }
abbrev WW_X4_area (p : Program) (l : Launch) (e : Env) (s : State) (m : MethodId) (args : Array Value) (below : List Frame) (meth : Method) (c : Code) (E : En) (o : Int64) (res : Ex × St) (H : Heap) (locs : List Loc) (cells slots : Nat) (g : JFrame) : Prop := W p l e (headSpec wsX4_area rm_X4_area).room s m args below meth c H locs cells slots (vx_MQ below (Qxi E s.heap.size o res) (XX E s.heap.size o res) args s 2 12 (AA E s.heap.size)) g
theorem k_X4_area_12 : Cond.fieldLink RX4 12 "DaySimulate" "town" "LDaySimulate$Town;" ∈ wsX4_area := by decide +kernel
theorem k_X4_area_59 : Cond.fieldLink RX4 59 "DaySimulate$Town" "areas" "I" ∈ wsX4_area := by decide +kernel
theorem in_X4_area_X3 : ∀ w ∈ wsX30, w ∈ wsX4_area := by decide +kernel
theorem in_X4_area_X4 : ∀ w ∈ wsX40, w ∈ wsX4_area := by decide +kernel
set_option maxHeartbeats 4000000 in
set_option maxRecDepth 100000 in
theorem c_X4_area (l : Launch) (hst : l.stackTraces = false) (E : En) (o : Int64) (a1 : Int32) (a2 : Int32) (a3 : Int32) (σ : St) {res : Ex × St} (hf : f_X4_area a1 a2 a3 σ = some res) : CXI l yX4_area wsX4_area rm_X4_area E [.ref (ad E 0), .int a1, .int a2, .int a3] o σ 2 12 res := by
  intro sz
  refine vx_ofW (cc := cX4_area) (maxL := 4) (ret := (some .int)) (by decide) rfl ?_
  intro p e s m args below meth c s₁ B hml hex hv
  obtain ⟨rfl, hv, hZ, hN⟩ := hv
  obtain ⟨rfl, hK, I⟩ := hv.start
  have C : Cx p c cX4_area 4 s m _ wsX4_area RX4 E := ⟨⟨B.exec, B.bytes, hml, findClass_of_methodNamed B.named, atoms_spec (ws := wsX4_area) B.pre⟩, hK⟩
  have hx := C.1.1
  have hb := C.1.2.1
  have hr := B.returns
  have hlocks := B.notSynchronized
  clear hv
  have hl := lv_entry ([.ref (ad E 0), .int a1, .int a2, .int a3]) (n := 4) (Nat.le_of_ble_eq_true rfl)
  rw [lg_entry_eq]
  generalize (lg_sl ([.ref (ad E 0), .int a1, .int a2, .int a3]) ++ List.replicate (4 - (lg_sl ([.ref (ad E 0), .int a1, .int a2, .int a3])).length) Slot.unset).toArray = ls at hl ⊢
  have hl : lv_has ls 4 [(0, .ref (ad E 0)), (1, .int a1), (2, .int a2), (3, .int a3)] := hl
  generalize ([.ref (ad E 0), .int a1, .int a2, .int a3] : List Value).toArray = args at C ⊢
  refine g_begin I (fun H locs I => ?_)
  rw [f_X4_area] at hf
  refine lv_iload_n hx hb dX4_area_0 rfl (lv_at hl 1 rfl) ?_
  refine lv_iload_n hx hb dX4_area_1 rfl (lv_at hl 2 rfl) ?_
  obtain ⟨r_1, σ_2, hg_3, hf⟩ := bd_some hf
  refine g_csi (av := [.int a1, .int a2]) (rest := []) C I AA.new (c_X4_isPlace l E o a1 a2 σ hg_3) (cwS 2 C.1.2.2.2.2 gX4_area_X4_isPlace rfl rfl rfl (by decide +kernel) ⟨Nat.le_of_ble_eq_true rfl, Nat.le_of_ble_eq_true rfl⟩) rfl hl.1 rfl (Nat.le_of_ble_eq_true rfl) ⟨Nat.le_of_ble_eq_true rfl, Nat.le_of_ble_eq_true rfl⟩ dX4_area_2 (fun H locs I => ?_)
  obtain ⟨J_5, eJ_5, hf⟩ := lt_split hf
  have hJ_5 : ∀ (y_10 : Int32) (σ_11 : St) (H : Heap) (locs : List Loc) (ls : Array Slot), J_5 y_10 σ_11 = some res → Iv E (AA E s.heap.size) s.heap o σ_11 H locs → lv_has ls 4 [(0, .ref (ad E 0)), (1, .int a1), (2, .int a2), (3, .int a3)] → WW_X4_area p l e s m args below meth c E o res H locs 0 0 (F0 m 23 ls [.int y_10]) := by
    intro y_10 σ_11 H locs ls hf I hl
    rw [eJ_5] at hf
    obtain ⟨rc_18, hg_14, hn_15, ht_16⟩ := bx_some hf
    refine g_xsv (av := [.int y_10]) (rest := []) C I hZ hN hex hlocks (c_X4_needRange l hst E o y_10 σ_11 hg_14) (cwS 1 C.1.2.2.2.2 gX4_area_X4_needRange rfl rfl rfl (by decide +kernel) ⟨Nat.le_of_ble_eq_true rfl, Nat.le_of_ble_eq_true rfl⟩) rfl hl.1 rfl (Nat.le_of_ble_eq_true rfl) ⟨Nat.le_of_ble_eq_true rfl, Nat.le_of_ble_eq_true rfl⟩ (Nat.le_of_ble_eq_true rfl) (Nat.le_of_ble_eq_true rfl) ht_16 dX4_area_23 (fun r_12 σ_13 H locs er_17 I => ?_)
    have hf := hn_15 r_12 σ_13 er_17
    refine lv_aload_n hx hb dX4_area_26 rfl (lv_at hl 0 rfl) ?_
    refine g_get (k := 0) (v := .ref (ad E 1)) C I (by decide) (gk_0 E o _) rfl in_X4_area_X4 0 (by decide) (C.1.2.2.2.2 _ k_X4_area_12) rfl dX4_area_27 ?_
    refine g_get (k := 1) (v := .int (σ_13 1 6)) C I (by decide) (gk_1 E o _) rfl in_X4_area_X3 6 (by decide) (C.1.2.2.2.2 _ k_X4_area_59) rfl dX4_area_30 ?_
    refine lv_bipush (v := (10 : Int32)) hx hb dX4_area_33 (by decide) ?_
    obtain ⟨J_20, eJ_20, hf⟩ := lt_split hf
    have hJ_20 : ∀ (y_21 : Int32) (σ_22 : St) (H : Heap) (locs : List Loc) (ls : Array Slot), J_20 y_21 σ_22 = some res → Iv E (AA E s.heap.size) s.heap o σ_22 H locs → lv_has ls 4 [(0, .ref (ad E 0)), (1, .int a1), (2, .int a2), (3, .int a3)] → WW_X4_area p l e s m args below meth c E o res H locs 1 6 (F0 m 43 ls [.int y_21]) := by
      intro y_21 σ_22 H locs ls hf I hl
      rw [eJ_20] at hf
      obtain ⟨rc_29, hg_25, hn_26, ht_27⟩ := bx_some hf
      refine g_xsv (av := [.int y_21]) (rest := []) C I hZ hN hex hlocks (c_X4_needRoom l hst E o y_21 σ_22 hg_25) (cwS 1 C.1.2.2.2.2 gX4_area_X4_needRoom rfl rfl rfl (by decide +kernel) ⟨Nat.le_of_ble_eq_true rfl, Nat.le_of_ble_eq_true rfl⟩) rfl hl.1 rfl (Nat.le_of_ble_eq_true rfl) ⟨Nat.le_of_ble_eq_true rfl, Nat.le_of_ble_eq_true rfl⟩ (Nat.le_of_ble_eq_true rfl) (Nat.le_of_ble_eq_true rfl) ht_27 dX4_area_43 (fun r_23 σ_24 H locs er_28 I => ?_)
      have hf := hn_26 r_23 σ_24 er_28
      refine lv_aload_n hx hb dX4_area_46 rfl (lv_at hl 0 rfl) ?_
      refine g_get (k := 0) (v := .ref (ad E 1)) C I (by decide) (gk_0 E o _) rfl in_X4_area_X4 0 (by decide) (C.1.2.2.2.2 _ k_X4_area_12) rfl dX4_area_47 ?_
      refine lv_iload_n hx hb dX4_area_50 rfl (lv_at hl 1 rfl) ?_
      refine lv_iload_n hx hb dX4_area_51 rfl (lv_at hl 2 rfl) ?_
      refine lv_iload_n hx hb dX4_area_52 rfl (lv_at hl 3 rfl) ?_
      obtain ⟨r_30, σ_31, hg_32, hf⟩ := bd_some hf
      refine g_cvi (av := [.int a1, .int a2, .int a3]) (rest := []) (k := 1) C I AA.new (c_X3_addArea l E o a1 a2 a3 σ_24 hg_32) (cwV 3 C.1.2.2.2.2 gX4_area_X3_addArea rfl rfl rfl (by decide +kernel) ⟨Nat.le_of_ble_eq_true rfl, Nat.le_of_ble_eq_true rfl⟩) (by decide) (gk_1 E o _) rfl rfl rfl hl.1 rfl (Nat.le_of_ble_eq_true rfl) ⟨Nat.le_of_ble_eq_true rfl, Nat.le_of_ble_eq_true rfl⟩ dX4_area_53 (fun H locs I => ?_)
      exact g_xiret C I hr hlocks (Nat.le_of_ble_eq_true rfl) (Nat.le_of_ble_eq_true rfl) hf dX4_area_56
    refine lv_icmp_ge (tgt := 42) hx hb dX4_area_35 (by decide) (fun c_19 => ?_) (fun c_19 => ?_)
    · have hf := if_t hf c_19
      refine lv_iconst (v := (0 : Int32)) hx hb dX4_area_42 (by decide) ?_
      exact hJ_20 _ σ_13 H locs ls hf I (lv_sub hl [0, 1, 2, 3] rfl)
    · have hf := if_f hf c_19
      refine lv_iconst (v := (1 : Int32)) hx hb dX4_area_38 (by decide) ?_
      refine lv_goto (tgt := 43) hx hb dX4_area_39 (by decide) ?_
      exact hJ_20 _ σ_13 H locs ls hf I (lv_sub hl [0, 1, 2, 3] rfl)
  refine lv_if_eq (tgt := 22) hx hb dX4_area_5 (by decide) (fun c_4 => ?_) (fun c_4 => ?_)
  · have hf := if_t hf c_4
    refine lv_iconst (v := (0 : Int32)) hx hb dX4_area_22 (by decide) ?_
    exact hJ_5 _ σ_2 H locs ls hf I (lv_sub hl [0, 1, 2, 3] rfl)
  · have hf := if_f hf c_4
    refine lv_iload_n hx hb dX4_area_8 rfl (lv_at hl 3 rfl) ?_
    refine lv_iconst (v := (1 : Int32)) hx hb dX4_area_9 (by decide) ?_
    refine lv_bipush (v := (50 : Int32)) hx hb dX4_area_10 (by decide) ?_
    obtain ⟨r_6, σ_7, hg_8, hf⟩ := bd_some hf
    refine g_csi (av := [.int a3, .int (1 : Int32), .int (50 : Int32)]) (rest := []) C I AA.new (c_X4_isWithin l E o a3 (1 : Int32) (50 : Int32) σ_2 hg_8) (cwS 3 C.1.2.2.2.2 gX4_area_X4_isWithin rfl rfl rfl (by decide +kernel) ⟨Nat.le_of_ble_eq_true rfl, Nat.le_of_ble_eq_true rfl⟩) rfl hl.1 rfl (Nat.le_of_ble_eq_true rfl) ⟨Nat.le_of_ble_eq_true rfl, Nat.le_of_ble_eq_true rfl⟩ dX4_area_12 (fun H locs I => ?_)
    refine lv_if_eq (tgt := 22) hx hb dX4_area_15 (by decide) (fun c_9 => ?_) (fun c_9 => ?_)
    · have hf := if_t hf c_9
      refine lv_iconst (v := (0 : Int32)) hx hb dX4_area_22 (by decide) ?_
      exact hJ_5 _ σ_7 H locs ls hf I (lv_sub hl [0, 1, 2, 3] rfl)
    · have hf := if_f hf c_9
      refine lv_iconst (v := (1 : Int32)) hx hb dX4_area_18 (by decide) ?_
      refine lv_goto (tgt := 23) hx hb dX4_area_19 (by decide) ?_
      exact hJ_5 _ σ_7 H locs ls hf I (lv_sub hl [0, 1, 2, 3] rfl)
abbrev rm_X4_needKnown : Room := { frames := 6, cells := 1, slots := 6, locals := 82 }
abbrev WW_X4_needKnown (p : Program) (l : Launch) (e : Env) (s : State) (m : MethodId) (args : Array Value) (below : List Frame) (meth : Method) (c : Code) (E : En) (o : Int64) (res : Ex × St) (H : Heap) (locs : List Loc) (cells slots : Nat) (g : JFrame) : Prop := W p l e (headSpec wsX4_needKnown rm_X4_needKnown).room s m args below meth c H locs cells slots (vx_MQ below (Qxv E s.heap.size o res) (XX E s.heap.size o res) args s 1 6 (AA E s.heap.size)) g
theorem k_X4_needKnown_125 : Cond.classLink RX4 125 "java/lang/IllegalArgumentException" ∈ wsX4_needKnown := by decide +kernel
theorem k_X4_needKnown_ini125 : Cond.initialized "java/lang/IllegalArgumentException" ∈ wsX4_needKnown := by decide +kernel
theorem at_X4_needKnown_129 : ∀ w ∈ (vx_atS RX4 129 "java/lang/IllegalArgumentException" RTN).filter goodWord, w ∈ wsX4_needKnown := by decide +kernel
set_option maxHeartbeats 4000000 in
set_option maxRecDepth 100000 in
theorem c_X4_needKnown (l : Launch) (hst : l.stackTraces = false) (E : En) (o : Int64) (a0 : Int32) (σ : St) {res : Ex × St} (hf : f_X4_needKnown a0 σ = some res) : CXV l yX4_needKnown wsX4_needKnown rm_X4_needKnown E [.int a0] o σ 1 6 res := by
  intro sz
  refine vx_ofW (cc := cX4_needKnown) (maxL := 1) (ret := none) (by decide) rfl ?_
  intro p e s m args below meth c s₁ B hml hex hv
  obtain ⟨rfl, hv, hZ, hN⟩ := hv
  obtain ⟨rfl, hK, I⟩ := hv.start
  have C : Cx p c cX4_needKnown 1 s m _ wsX4_needKnown RX4 E := ⟨⟨B.exec, B.bytes, hml, findClass_of_methodNamed B.named, atoms_spec (ws := wsX4_needKnown) B.pre⟩, hK⟩
  have hx := C.1.1
  have hb := C.1.2.1
  have hr := B.returns
  have hlocks := B.notSynchronized
  clear hv
  have hl := lv_entry ([.int a0]) (n := 1) (Nat.le_of_ble_eq_true rfl)
  rw [lg_entry_eq]
  generalize (lg_sl ([.int a0]) ++ List.replicate (1 - (lg_sl ([.int a0])).length) Slot.unset).toArray = ls at hl ⊢
  have hl : lv_has ls 1 [(0, .int a0)] := hl
  generalize ([.int a0] : List Value).toArray = args at C ⊢
  refine g_begin I (fun H locs I => ?_)
  rw [f_X4_needKnown] at hf
  refine lv_iload_n hx hb dX4_needKnown_0 rfl (lv_at hl 0 rfl) ?_
  refine lv_if_ne (tgt := 14) hx hb dX4_needKnown_1 (by decide) (fun c_1 => ?_) (fun c_1 => ?_)
  · have hf := if_f hf c_1
    exact g_xvret C I hr hlocks (Nat.le_of_ble_eq_true rfl) (Nat.le_of_ble_eq_true rfl) hf dX4_needKnown_14
  · have hf := if_t hf c_1
    exact g_throw (text := "unknown number") C I hst hZ hN hex hlocks hl.1 (by decide) (by decide) (by decide) k_X4_needKnown_125 k_X4_needKnown_ini125 at_X4_needKnown_129 ng_129 gd_129_125 dX4_needKnown_4 dX4_needKnown_7 dX4_needKnown_8 dX4_needKnown_10 dX4_needKnown_13 (Nat.le_of_ble_eq_true rfl) (Nat.le_of_ble_eq_true rfl) (Nat.le_of_ble_eq_true rfl) (Nat.le_of_ble_eq_true rfl) (Nat.le_of_ble_eq_true rfl) (Nat.le_of_ble_eq_true rfl) hf
abbrev rm_X4_needState : Room := { frames := 6, cells := 1, slots := 6, locals := 82 }
abbrev WW_X4_needState (p : Program) (l : Launch) (e : Env) (s : State) (m : MethodId) (args : Array Value) (below : List Frame) (meth : Method) (c : Code) (E : En) (o : Int64) (res : Ex × St) (H : Heap) (locs : List Loc) (cells slots : Nat) (g : JFrame) : Prop := W p l e (headSpec wsX4_needState rm_X4_needState).room s m args below meth c H locs cells slots (vx_MQ below (Qxv E s.heap.size o res) (XX E s.heap.size o res) args s 1 6 (AA E s.heap.size)) g
theorem k_X4_needState_200 : Cond.classLink RX4 200 "java/lang/IllegalStateException" ∈ wsX4_needState := by decide +kernel
theorem k_X4_needState_ini200 : Cond.initialized "java/lang/IllegalStateException" ∈ wsX4_needState := by decide +kernel
theorem at_X4_needState_204 : ∀ w ∈ (vx_atS RX4 204 "java/lang/IllegalStateException" RTN).filter goodWord, w ∈ wsX4_needState := by decide +kernel
set_option maxHeartbeats 4000000 in
set_option maxRecDepth 100000 in
theorem c_X4_needState (l : Launch) (hst : l.stackTraces = false) (E : En) (o : Int64) (a0 : Int32) (σ : St) {res : Ex × St} (hf : f_X4_needState a0 σ = some res) : CXV l yX4_needState wsX4_needState rm_X4_needState E [.int a0] o σ 1 6 res := by
  intro sz
  refine vx_ofW (cc := cX4_needState) (maxL := 1) (ret := none) (by decide) rfl ?_
  intro p e s m args below meth c s₁ B hml hex hv
  obtain ⟨rfl, hv, hZ, hN⟩ := hv
  obtain ⟨rfl, hK, I⟩ := hv.start
  have C : Cx p c cX4_needState 1 s m _ wsX4_needState RX4 E := ⟨⟨B.exec, B.bytes, hml, findClass_of_methodNamed B.named, atoms_spec (ws := wsX4_needState) B.pre⟩, hK⟩
  have hx := C.1.1
  have hb := C.1.2.1
  have hr := B.returns
  have hlocks := B.notSynchronized
  clear hv
  have hl := lv_entry ([.int a0]) (n := 1) (Nat.le_of_ble_eq_true rfl)
  rw [lg_entry_eq]
  generalize (lg_sl ([.int a0]) ++ List.replicate (1 - (lg_sl ([.int a0])).length) Slot.unset).toArray = ls at hl ⊢
  have hl : lv_has ls 1 [(0, .int a0)] := hl
  generalize ([.int a0] : List Value).toArray = args at C ⊢
  refine g_begin I (fun H locs I => ?_)
  rw [f_X4_needState] at hf
  refine lv_iload_n hx hb dX4_needState_0 rfl (lv_at hl 0 rfl) ?_
  refine lv_if_ne (tgt := 14) hx hb dX4_needState_1 (by decide) (fun c_1 => ?_) (fun c_1 => ?_)
  · have hf := if_f hf c_1
    exact g_xvret C I hr hlocks (Nat.le_of_ble_eq_true rfl) (Nat.le_of_ble_eq_true rfl) hf dX4_needState_14
  · have hf := if_t hf c_1
    exact g_throw (text := "not in this state") C I hst hZ hN hex hlocks hl.1 (by decide) (by decide) (by decide) k_X4_needState_200 k_X4_needState_ini200 at_X4_needState_204 ng_204 gd_204_200 dX4_needState_4 dX4_needState_7 dX4_needState_8 dX4_needState_10 dX4_needState_13 (Nat.le_of_ble_eq_true rfl) (Nat.le_of_ble_eq_true rfl) (Nat.le_of_ble_eq_true rfl) (Nat.le_of_ble_eq_true rfl) (Nat.le_of_ble_eq_true rfl) (Nat.le_of_ble_eq_true rfl) hf
abbrev rm_X4_unit : Room := { frames := 7, cells := 3, slots := 18, locals := 102 }
abbrev WW_X4_unit (p : Program) (l : Launch) (e : Env) (s : State) (m : MethodId) (args : Array Value) (below : List Frame) (meth : Method) (c : Code) (E : En) (o : Int64) (res : Ex × St) (H : Heap) (locs : List Loc) (cells slots : Nat) (g : JFrame) : Prop := W p l e (headSpec wsX4_unit rm_X4_unit).room s m args below meth c H locs cells slots (vx_MQ below (Qxi E s.heap.size o res) (XX E s.heap.size o res) args s 3 18 (AA E s.heap.size)) g
theorem k_X4_unit_19 : Cond.fieldLink RX4 19 "DaySimulate" "fleet" "LDaySimulate$Fleet;" ∈ wsX4_unit := by decide +kernel
theorem k_X4_unit_79 : Cond.fieldLink RX4 79 "DaySimulate$Fleet" "units" "I" ∈ wsX4_unit := by decide +kernel
theorem k_X4_unit_45 : Cond.fieldLink RX4 45 "DaySimulate$Town" "stations" "I" ∈ wsX4_unit := by decide +kernel
theorem k_X4_unit_12 : Cond.fieldLink RX4 12 "DaySimulate" "town" "LDaySimulate$Town;" ∈ wsX4_unit := by decide +kernel
theorem in_X4_unit_X1 : ∀ w ∈ wsX10, w ∈ wsX4_unit := by decide +kernel
theorem in_X4_unit_X3 : ∀ w ∈ wsX30, w ∈ wsX4_unit := by decide +kernel
theorem in_X4_unit_X4 : ∀ w ∈ wsX40, w ∈ wsX4_unit := by decide +kernel
set_option maxHeartbeats 4000000 in
set_option maxRecDepth 100000 in
theorem c_X4_unit (l : Launch) (hst : l.stackTraces = false) (E : En) (o : Int64) (a1 : Int32) (σ : St) {res : Ex × St} (hf : f_X4_unit a1 σ = some res) : CXI l yX4_unit wsX4_unit rm_X4_unit E [.ref (ad E 0), .int a1] o σ 3 18 res := by
  intro sz
  refine vx_ofW (cc := cX4_unit) (maxL := 2) (ret := (some .int)) (by decide) rfl ?_
  intro p e s m args below meth c s₁ B hml hex hv
  obtain ⟨rfl, hv, hZ, hN⟩ := hv
  obtain ⟨rfl, hK, I⟩ := hv.start
  have C : Cx p c cX4_unit 2 s m _ wsX4_unit RX4 E := ⟨⟨B.exec, B.bytes, hml, findClass_of_methodNamed B.named, atoms_spec (ws := wsX4_unit) B.pre⟩, hK⟩
  have hx := C.1.1
  have hb := C.1.2.1
  have hr := B.returns
  have hlocks := B.notSynchronized
  clear hv
  have hl := lv_entry ([.ref (ad E 0), .int a1]) (n := 2) (Nat.le_of_ble_eq_true rfl)
  rw [lg_entry_eq]
  generalize (lg_sl ([.ref (ad E 0), .int a1]) ++ List.replicate (2 - (lg_sl ([.ref (ad E 0), .int a1])).length) Slot.unset).toArray = ls at hl ⊢
  have hl : lv_has ls 2 [(0, .ref (ad E 0)), (1, .int a1)] := hl
  generalize ([.ref (ad E 0), .int a1] : List Value).toArray = args at C ⊢
  refine g_begin I (fun H locs I => ?_)
  rw [f_X4_unit] at hf
  refine lv_iload_n hx hb dX4_unit_0 rfl (lv_at hl 1 rfl) ?_
  refine lv_aload_n hx hb dX4_unit_1 rfl (lv_at hl 0 rfl) ?_
  refine g_get (k := 0) (v := .ref (ad E 1)) C I (by decide) (gk_0 E o _) rfl in_X4_unit_X4 0 (by decide) (C.1.2.2.2.2 _ k_X4_unit_12) rfl dX4_unit_2 ?_
  refine g_get (k := 1) (v := .int (σ 1 5)) C I (by decide) (gk_1 E o _) rfl in_X4_unit_X3 5 (by decide) (C.1.2.2.2.2 _ k_X4_unit_45) rfl dX4_unit_5 ?_
  obtain ⟨r_1, σ_2, hg_3, hf⟩ := bd_some hf
  refine g_csi (av := [.int a1, .int (σ 1 5)]) (rest := []) C I AA.new (c_X4_isBelow l E o a1 ((σ 1 5)) σ hg_3) (cwS 2 C.1.2.2.2.2 gX4_unit_X4_isBelow rfl rfl rfl (by decide +kernel) ⟨Nat.le_of_ble_eq_true rfl, Nat.le_of_ble_eq_true rfl⟩) rfl hl.1 rfl (Nat.le_of_ble_eq_true rfl) ⟨Nat.le_of_ble_eq_true rfl, Nat.le_of_ble_eq_true rfl⟩ dX4_unit_8 (fun H locs I => ?_)
  obtain ⟨rc_10, hg_6, hn_7, ht_8⟩ := bx_some hf
  refine g_xsv (av := [.int r_1]) (rest := []) C I hZ hN hex hlocks (c_X4_needKnown l hst E o r_1 σ_2 hg_6) (cwS 1 C.1.2.2.2.2 gX4_unit_X4_needKnown rfl rfl rfl (by decide +kernel) ⟨Nat.le_of_ble_eq_true rfl, Nat.le_of_ble_eq_true rfl⟩) rfl hl.1 rfl (Nat.le_of_ble_eq_true rfl) ⟨Nat.le_of_ble_eq_true rfl, Nat.le_of_ble_eq_true rfl⟩ (Nat.le_of_ble_eq_true rfl) (Nat.le_of_ble_eq_true rfl) ht_8 dX4_unit_11 (fun r_4 σ_5 H locs er_9 I => ?_)
  have hf := hn_7 r_4 σ_5 er_9
  refine lv_aload_n hx hb dX4_unit_14 rfl (lv_at hl 0 rfl) ?_
  refine g_get (k := 0) (v := .ref (ad E 7)) C I (by decide) (gk_0 E o _) rfl in_X4_unit_X4 1 (by decide) (C.1.2.2.2.2 _ k_X4_unit_19) rfl dX4_unit_15 ?_
  refine lv_iload_n hx hb dX4_unit_18 rfl (lv_at hl 1 rfl) ?_
  obtain ⟨r_11, σ_12, hg_13, hf⟩ := bd_some hf
  refine g_cvi (av := [.int a1]) (rest := []) (k := 7) C I AA.new (c_X1_hasRoomInAllVariants l E o a1 σ_5 hg_13) (cwV 1 C.1.2.2.2.2 gX4_unit_X1_hasRoomInAllVariants rfl rfl rfl (by decide +kernel) ⟨Nat.le_of_ble_eq_true rfl, Nat.le_of_ble_eq_true rfl⟩) (by decide) (gk_7 E o _) rfl rfl rfl hl.1 rfl (Nat.le_of_ble_eq_true rfl) ⟨Nat.le_of_ble_eq_true rfl, Nat.le_of_ble_eq_true rfl⟩ dX4_unit_19 (fun H locs I => ?_)
  obtain ⟨rc_20, hg_16, hn_17, ht_18⟩ := bx_some hf
  refine g_xsv (av := [.int r_11]) (rest := []) C I hZ hN hex hlocks (c_X4_needState l hst E o r_11 σ_12 hg_16) (cwS 1 C.1.2.2.2.2 gX4_unit_X4_needState rfl rfl rfl (by decide +kernel) ⟨Nat.le_of_ble_eq_true rfl, Nat.le_of_ble_eq_true rfl⟩) rfl hl.1 rfl (Nat.le_of_ble_eq_true rfl) ⟨Nat.le_of_ble_eq_true rfl, Nat.le_of_ble_eq_true rfl⟩ (Nat.le_of_ble_eq_true rfl) (Nat.le_of_ble_eq_true rfl) ht_18 dX4_unit_22 (fun r_14 σ_15 H locs er_19 I => ?_)
  have hf := hn_17 r_14 σ_15 er_19
  refine lv_aload_n hx hb dX4_unit_25 rfl (lv_at hl 0 rfl) ?_
  refine g_get (k := 0) (v := .ref (ad E 7)) C I (by decide) (gk_0 E o _) rfl in_X4_unit_X4 1 (by decide) (C.1.2.2.2.2 _ k_X4_unit_19) rfl dX4_unit_26 ?_
  refine g_get (k := 7) (v := .int (σ_15 7 1)) C I (by decide) (gk_7 E o _) rfl in_X4_unit_X1 1 (by decide) (C.1.2.2.2.2 _ k_X4_unit_79) rfl dX4_unit_29 ?_
  refine lv_bipush (v := (12 : Int32)) hx hb dX4_unit_32 (by decide) ?_
  obtain ⟨J_22, eJ_22, hf⟩ := lt_split hf
  have hJ_22 : ∀ (y_23 : Int32) (σ_24 : St) (H : Heap) (locs : List Loc) (ls : Array Slot), J_22 y_23 σ_24 = some res → Iv E (AA E s.heap.size) s.heap o σ_24 H locs → lv_has ls 2 [(0, .ref (ad E 0)), (1, .int a1)] → WW_X4_unit p l e s m args below meth c E o res H locs 2 12 (F0 m 42 ls [.int y_23]) := by
    intro y_23 σ_24 H locs ls hf I hl
    rw [eJ_22] at hf
    obtain ⟨rc_31, hg_27, hn_28, ht_29⟩ := bx_some hf
    refine g_xsv (av := [.int y_23]) (rest := []) C I hZ hN hex hlocks (c_X4_needRoom l hst E o y_23 σ_24 hg_27) (cwS 1 C.1.2.2.2.2 gX4_unit_X4_needRoom rfl rfl rfl (by decide +kernel) ⟨Nat.le_of_ble_eq_true rfl, Nat.le_of_ble_eq_true rfl⟩) rfl hl.1 rfl (Nat.le_of_ble_eq_true rfl) ⟨Nat.le_of_ble_eq_true rfl, Nat.le_of_ble_eq_true rfl⟩ (Nat.le_of_ble_eq_true rfl) (Nat.le_of_ble_eq_true rfl) ht_29 dX4_unit_42 (fun r_25 σ_26 H locs er_30 I => ?_)
    have hf := hn_28 r_25 σ_26 er_30
    refine lv_aload_n hx hb dX4_unit_45 rfl (lv_at hl 0 rfl) ?_
    refine g_get (k := 0) (v := .ref (ad E 7)) C I (by decide) (gk_0 E o _) rfl in_X4_unit_X4 1 (by decide) (C.1.2.2.2.2 _ k_X4_unit_19) rfl dX4_unit_46 ?_
    refine lv_iload_n hx hb dX4_unit_49 rfl (lv_at hl 1 rfl) ?_
    obtain ⟨r_32, σ_33, hg_34, hf⟩ := bd_some hf
    refine g_cvi (av := [.int a1]) (rest := []) (k := 7) C I AA.new (c_X1_addUnit l E o a1 σ_26 hg_34) (cwV 1 C.1.2.2.2.2 gX4_unit_X1_addUnit rfl rfl rfl (by decide +kernel) ⟨Nat.le_of_ble_eq_true rfl, Nat.le_of_ble_eq_true rfl⟩) (by decide) (gk_7 E o _) rfl rfl rfl hl.1 rfl (Nat.le_of_ble_eq_true rfl) ⟨Nat.le_of_ble_eq_true rfl, Nat.le_of_ble_eq_true rfl⟩ dX4_unit_50 (fun H locs I => ?_)
    exact g_xiret C I hr hlocks (Nat.le_of_ble_eq_true rfl) (Nat.le_of_ble_eq_true rfl) hf dX4_unit_53
  refine lv_icmp_ge (tgt := 41) hx hb dX4_unit_34 (by decide) (fun c_21 => ?_) (fun c_21 => ?_)
  · have hf := if_t hf c_21
    refine lv_iconst (v := (0 : Int32)) hx hb dX4_unit_41 (by decide) ?_
    exact hJ_22 _ σ_15 H locs ls hf I (lv_sub hl [0, 1] rfl)
  · have hf := if_f hf c_21
    refine lv_iconst (v := (1 : Int32)) hx hb dX4_unit_37 (by decide) ?_
    refine lv_goto (tgt := 42) hx hb dX4_unit_38 (by decide) ?_
    exact hJ_22 _ σ_15 H locs ls hf I (lv_sub hl [0, 1] rfl)
abbrev rm_X4_change : Room := { frames := 7, cells := 3, slots := 18, locals := 102 }
abbrev WW_X4_change (p : Program) (l : Launch) (e : Env) (s : State) (m : MethodId) (args : Array Value) (below : List Frame) (meth : Method) (c : Code) (E : En) (o : Int64) (res : Ex × St) (H : Heap) (locs : List Loc) (cells slots : Nat) (g : JFrame) : Prop := W p l e (headSpec wsX4_change rm_X4_change).room s m args below meth c H locs cells slots (vx_MQ below (Qxv E s.heap.size o res) (XX E s.heap.size o res) args s 3 18 (AA E s.heap.size)) g
theorem k_X4_change_79 : Cond.fieldLink RX4 79 "DaySimulate$Fleet" "units" "I" ∈ wsX4_change := by decide +kernel
theorem k_X4_change_19 : Cond.fieldLink RX4 19 "DaySimulate" "fleet" "LDaySimulate$Fleet;" ∈ wsX4_change := by decide +kernel
theorem k_X4_change_45 : Cond.fieldLink RX4 45 "DaySimulate$Town" "stations" "I" ∈ wsX4_change := by decide +kernel
theorem k_X4_change_12 : Cond.fieldLink RX4 12 "DaySimulate" "town" "LDaySimulate$Town;" ∈ wsX4_change := by decide +kernel
theorem in_X4_change_X1 : ∀ w ∈ wsX10, w ∈ wsX4_change := by decide +kernel
theorem in_X4_change_X3 : ∀ w ∈ wsX30, w ∈ wsX4_change := by decide +kernel
theorem in_X4_change_X4 : ∀ w ∈ wsX40, w ∈ wsX4_change := by decide +kernel
set_option maxHeartbeats 4000000 in
set_option maxRecDepth 100000 in
theorem c_X4_change (l : Launch) (hst : l.stackTraces = false) (E : En) (o : Int64) (a1 : Int32) (a2 : Int32) (a3 : Int32) (σ : St) {res : Ex × St} (hf : f_X4_change a1 a2 a3 σ = some res) : CXV l yX4_change wsX4_change rm_X4_change E [.ref (ad E 0), .int a1, .int a2, .int a3] o σ 3 18 res := by
  intro sz
  refine vx_ofW (cc := cX4_change) (maxL := 4) (ret := none) (by decide) rfl ?_
  intro p e s m args below meth c s₁ B hml hex hv
  obtain ⟨rfl, hv, hZ, hN⟩ := hv
  obtain ⟨rfl, hK, I⟩ := hv.start
  have C : Cx p c cX4_change 4 s m _ wsX4_change RX4 E := ⟨⟨B.exec, B.bytes, hml, findClass_of_methodNamed B.named, atoms_spec (ws := wsX4_change) B.pre⟩, hK⟩
  have hx := C.1.1
  have hb := C.1.2.1
  have hr := B.returns
  have hlocks := B.notSynchronized
  clear hv
  have hl := lv_entry ([.ref (ad E 0), .int a1, .int a2, .int a3]) (n := 4) (Nat.le_of_ble_eq_true rfl)
  rw [lg_entry_eq]
  generalize (lg_sl ([.ref (ad E 0), .int a1, .int a2, .int a3]) ++ List.replicate (4 - (lg_sl ([.ref (ad E 0), .int a1, .int a2, .int a3])).length) Slot.unset).toArray = ls at hl ⊢
  have hl : lv_has ls 4 [(0, .ref (ad E 0)), (1, .int a1), (2, .int a2), (3, .int a3)] := hl
  generalize ([.ref (ad E 0), .int a1, .int a2, .int a3] : List Value).toArray = args at C ⊢
  refine g_begin I (fun H locs I => ?_)
  rw [f_X4_change] at hf
  refine lv_iload_n hx hb dX4_change_0 rfl (lv_at hl 1 rfl) ?_
  refine lv_iconst (v := (1 : Int32)) hx hb dX4_change_1 (by decide) ?_
  refine lv_iconst (v := (3 : Int32)) hx hb dX4_change_2 (by decide) ?_
  obtain ⟨r_1, σ_2, hg_3, hf⟩ := bd_some hf
  refine g_csi (av := [.int a1, .int (1 : Int32), .int (3 : Int32)]) (rest := []) C I AA.new (c_X4_isWithin l E o a1 (1 : Int32) (3 : Int32) σ hg_3) (cwS 3 C.1.2.2.2.2 gX4_change_X4_isWithin rfl rfl rfl (by decide +kernel) ⟨Nat.le_of_ble_eq_true rfl, Nat.le_of_ble_eq_true rfl⟩) rfl hl.1 rfl (Nat.le_of_ble_eq_true rfl) ⟨Nat.le_of_ble_eq_true rfl, Nat.le_of_ble_eq_true rfl⟩ dX4_change_3 (fun H locs I => ?_)
  obtain ⟨J_5, eJ_5, hf⟩ := lt_split hf
  have hJ_5 : ∀ (y_10 : Int32) (σ_11 : St) (H : Heap) (locs : List Loc) (ls : Array Slot), J_5 y_10 σ_11 = some res → Iv E (AA E s.heap.size) s.heap o σ_11 H locs → lv_has ls 4 [(0, .ref (ad E 0)), (1, .int a1), (2, .int a2), (3, .int a3)] → WW_X4_change p l e s m args below meth c E o res H locs 0 0 (F0 m 28 ls [.int y_10]) := by
    intro y_10 σ_11 H locs ls hf I hl
    rw [eJ_5] at hf
    obtain ⟨rc_18, hg_14, hn_15, ht_16⟩ := bx_some hf
    refine g_xsv (av := [.int y_10]) (rest := []) C I hZ hN hex hlocks (c_X4_needKnown l hst E o y_10 σ_11 hg_14) (cwS 1 C.1.2.2.2.2 gX4_change_X4_needKnown rfl rfl rfl (by decide +kernel) ⟨Nat.le_of_ble_eq_true rfl, Nat.le_of_ble_eq_true rfl⟩) rfl hl.1 rfl (Nat.le_of_ble_eq_true rfl) ⟨Nat.le_of_ble_eq_true rfl, Nat.le_of_ble_eq_true rfl⟩ (Nat.le_of_ble_eq_true rfl) (Nat.le_of_ble_eq_true rfl) ht_16 dX4_change_28 (fun r_12 σ_13 H locs er_17 I => ?_)
    have hf := hn_15 r_12 σ_13 er_17
    refine lv_iload_n hx hb dX4_change_31 rfl (lv_at hl 3 rfl) ?_
    refine lv_iconst (v := (-1 : Int32)) hx hb dX4_change_32 (by decide) ?_
    obtain ⟨J_20, eJ_20, hf⟩ := lt_split hf
    have hJ_20 : ∀ (y_25 : Int32) (σ_26 : St) (H : Heap) (locs : List Loc) (ls : Array Slot), J_20 y_25 σ_26 = some res → Iv E (AA E s.heap.size) s.heap o σ_26 H locs → lv_has ls 4 [(0, .ref (ad E 0)), (1, .int a1), (2, .int a2), (3, .int a3)] → WW_X4_change p l e s m args below meth c E o res H locs 1 6 (F0 m 55 ls [.int y_25]) := by
      intro y_25 σ_26 H locs ls hf I hl
      rw [eJ_20] at hf
      obtain ⟨rc_33, hg_29, hn_30, ht_31⟩ := bx_some hf
      refine g_xsv (av := [.int y_25]) (rest := []) C I hZ hN hex hlocks (c_X4_needKnown l hst E o y_25 σ_26 hg_29) (cwS 1 C.1.2.2.2.2 gX4_change_X4_needKnown rfl rfl rfl (by decide +kernel) ⟨Nat.le_of_ble_eq_true rfl, Nat.le_of_ble_eq_true rfl⟩) rfl hl.1 rfl (Nat.le_of_ble_eq_true rfl) ⟨Nat.le_of_ble_eq_true rfl, Nat.le_of_ble_eq_true rfl⟩ (Nat.le_of_ble_eq_true rfl) (Nat.le_of_ble_eq_true rfl) ht_31 dX4_change_55 (fun r_27 σ_28 H locs er_32 I => ?_)
      have hf := hn_30 r_27 σ_28 er_32
      refine lv_iload_n hx hb dX4_change_58 rfl (lv_at hl 3 rfl) ?_
      refine lv_iconst (v := (-1 : Int32)) hx hb dX4_change_59 (by decide) ?_
      obtain ⟨J_35, eJ_35, hf⟩ := lt_split hf
      have hJ_35 : ∀ (y_40 : Int32) (σ_41 : St) (H : Heap) (locs : List Loc) (ls : Array Slot), J_35 y_40 σ_41 = some res → Iv E (AA E s.heap.size) s.heap o σ_41 H locs → lv_has ls 4 [(0, .ref (ad E 0)), (1, .int a1), (2, .int a2), (3, .int a3)] → WW_X4_change p l e s m args below meth c E o res H locs 2 12 (F0 m 82 ls [.int y_40]) := by
        intro y_40 σ_41 H locs ls hf I hl
        rw [eJ_35] at hf
        obtain ⟨rc_48, hg_44, hn_45, ht_46⟩ := bx_some hf
        refine g_xsv (av := [.int y_40]) (rest := []) C I hZ hN hex hlocks (c_X4_needState l hst E o y_40 σ_41 hg_44) (cwS 1 C.1.2.2.2.2 gX4_change_X4_needState rfl rfl rfl (by decide +kernel) ⟨Nat.le_of_ble_eq_true rfl, Nat.le_of_ble_eq_true rfl⟩) rfl hl.1 rfl (Nat.le_of_ble_eq_true rfl) ⟨Nat.le_of_ble_eq_true rfl, Nat.le_of_ble_eq_true rfl⟩ (Nat.le_of_ble_eq_true rfl) (Nat.le_of_ble_eq_true rfl) ht_46 dX4_change_82 (fun r_42 σ_43 H locs er_47 I => ?_)
        have hf := hn_45 r_42 σ_43 er_47
        refine lv_aload_n hx hb dX4_change_85 rfl (lv_at hl 0 rfl) ?_
        refine g_get (k := 0) (v := .ref (ad E 7)) C I (by decide) (gk_0 E o _) rfl in_X4_change_X4 1 (by decide) (C.1.2.2.2.2 _ k_X4_change_19) rfl dX4_change_86 ?_
        refine lv_iload_n hx hb dX4_change_89 rfl (lv_at hl 1 rfl) ?_
        refine lv_iload_n hx hb dX4_change_90 rfl (lv_at hl 2 rfl) ?_
        refine lv_iload_n hx hb dX4_change_91 rfl (lv_at hl 3 rfl) ?_
        obtain ⟨r_49, σ_50, hg_51, hf⟩ := bd_some hf
        refine g_cvv (av := [.int a1, .int a2, .int a3]) (rest := []) (k := 7) C I AA.new (c_X1_move l E o a1 a2 a3 σ_43 hg_51) (cwV 3 C.1.2.2.2.2 gX4_change_X1_move rfl rfl rfl (by decide +kernel) ⟨Nat.le_of_ble_eq_true rfl, Nat.le_of_ble_eq_true rfl⟩) (by decide) (gk_7 E o _) rfl rfl rfl hl.1 rfl (Nat.le_of_ble_eq_true rfl) ⟨Nat.le_of_ble_eq_true rfl, Nat.le_of_ble_eq_true rfl⟩ dX4_change_92 (fun H locs I => ?_)
        exact g_xvret C I hr hlocks (Nat.le_of_ble_eq_true rfl) (Nat.le_of_ble_eq_true rfl) hf dX4_change_95
      refine lv_icmp_eq (tgt := 77) hx hb dX4_change_60 (by decide) (fun c_34 => ?_) (fun c_34 => ?_)
      · have hf := if_t hf c_34
        refine lv_iconst (v := (1 : Int32)) hx hb dX4_change_77 (by decide) ?_
        refine lv_goto (tgt := 82) hx hb dX4_change_78 (by decide) ?_
        exact hJ_35 _ σ_28 H locs ls hf I (lv_sub hl [0, 1, 2, 3] rfl)
      · have hf := if_f hf c_34
        refine lv_aload_n hx hb dX4_change_63 rfl (lv_at hl 0 rfl) ?_
        refine g_get (k := 0) (v := .ref (ad E 7)) C I (by decide) (gk_0 E o _) rfl in_X4_change_X4 1 (by decide) (C.1.2.2.2.2 _ k_X4_change_19) rfl dX4_change_64 ?_
        refine lv_iload_n hx hb dX4_change_67 rfl (lv_at hl 1 rfl) ?_
        refine lv_iload_n hx hb dX4_change_68 rfl (lv_at hl 3 rfl) ?_
        refine lv_iload_n hx hb dX4_change_69 rfl (lv_at hl 2 rfl) ?_
        obtain ⟨r_36, σ_37, hg_38, hf⟩ := bd_some hf
        refine g_cvi (av := [.int a1, .int a3, .int a2]) (rest := []) (k := 7) C I AA.new (c_X1_countOthers l E o a1 a3 a2 σ_28 hg_38) (cwV 3 C.1.2.2.2.2 gX4_change_X1_countOthers rfl rfl rfl (by decide +kernel) ⟨Nat.le_of_ble_eq_true rfl, Nat.le_of_ble_eq_true rfl⟩) (by decide) (gk_7 E o _) rfl rfl rfl hl.1 rfl (Nat.le_of_ble_eq_true rfl) ⟨Nat.le_of_ble_eq_true rfl, Nat.le_of_ble_eq_true rfl⟩ dX4_change_70 (fun H locs I => ?_)
        refine lv_iconst (v := (4 : Int32)) hx hb dX4_change_73 (by decide) ?_
        refine lv_icmp_ge (tgt := 81) hx hb dX4_change_74 (by decide) (fun c_39 => ?_) (fun c_39 => ?_)
        · have hf := if_t hf c_39
          refine lv_iconst (v := (0 : Int32)) hx hb dX4_change_81 (by decide) ?_
          exact hJ_35 _ σ_37 H locs ls hf I (lv_sub hl [0, 1, 2, 3] rfl)
        · have hf := if_f hf c_39
          refine lv_iconst (v := (1 : Int32)) hx hb dX4_change_77 (by decide) ?_
          refine lv_goto (tgt := 82) hx hb dX4_change_78 (by decide) ?_
          exact hJ_35 _ σ_37 H locs ls hf I (lv_sub hl [0, 1, 2, 3] rfl)
    refine lv_icmp_eq (tgt := 50) hx hb dX4_change_33 (by decide) (fun c_19 => ?_) (fun c_19 => ?_)
    · have hf := if_t hf c_19
      refine lv_iconst (v := (1 : Int32)) hx hb dX4_change_50 (by decide) ?_
      refine lv_goto (tgt := 55) hx hb dX4_change_51 (by decide) ?_
      exact hJ_20 _ σ_13 H locs ls hf I (lv_sub hl [0, 1, 2, 3] rfl)
    · have hf := if_f hf c_19
      refine lv_iload_n hx hb dX4_change_36 rfl (lv_at hl 3 rfl) ?_
      refine lv_aload_n hx hb dX4_change_37 rfl (lv_at hl 0 rfl) ?_
      refine g_get (k := 0) (v := .ref (ad E 1)) C I (by decide) (gk_0 E o _) rfl in_X4_change_X4 0 (by decide) (C.1.2.2.2.2 _ k_X4_change_12) rfl dX4_change_38 ?_
      refine g_get (k := 1) (v := .int (σ_13 1 5)) C I (by decide) (gk_1 E o _) rfl in_X4_change_X3 5 (by decide) (C.1.2.2.2.2 _ k_X4_change_45) rfl dX4_change_41 ?_
      obtain ⟨r_21, σ_22, hg_23, hf⟩ := bd_some hf
      refine g_csi (av := [.int a3, .int (σ_13 1 5)]) (rest := []) C I AA.new (c_X4_isBelow l E o a3 ((σ_13 1 5)) σ_13 hg_23) (cwS 2 C.1.2.2.2.2 gX4_change_X4_isBelow rfl rfl rfl (by decide +kernel) ⟨Nat.le_of_ble_eq_true rfl, Nat.le_of_ble_eq_true rfl⟩) rfl hl.1 rfl (Nat.le_of_ble_eq_true rfl) ⟨Nat.le_of_ble_eq_true rfl, Nat.le_of_ble_eq_true rfl⟩ dX4_change_44 (fun H locs I => ?_)
      refine lv_if_eq (tgt := 54) hx hb dX4_change_47 (by decide) (fun c_24 => ?_) (fun c_24 => ?_)
      · have hf := if_t hf c_24
        refine lv_iconst (v := (0 : Int32)) hx hb dX4_change_54 (by decide) ?_
        exact hJ_20 _ σ_22 H locs ls hf I (lv_sub hl [0, 1, 2, 3] rfl)
      · have hf := if_f hf c_24
        refine lv_iconst (v := (1 : Int32)) hx hb dX4_change_50 (by decide) ?_
        refine lv_goto (tgt := 55) hx hb dX4_change_51 (by decide) ?_
        exact hJ_20 _ σ_22 H locs ls hf I (lv_sub hl [0, 1, 2, 3] rfl)
  refine lv_if_eq (tgt := 27) hx hb dX4_change_6 (by decide) (fun c_4 => ?_) (fun c_4 => ?_)
  · have hf := if_t hf c_4
    refine lv_iconst (v := (0 : Int32)) hx hb dX4_change_27 (by decide) ?_
    exact hJ_5 _ σ_2 H locs ls hf I (lv_sub hl [0, 1, 2, 3] rfl)
  · have hf := if_f hf c_4
    refine lv_iload_n hx hb dX4_change_9 rfl (lv_at hl 2 rfl) ?_
    refine lv_aload_n hx hb dX4_change_10 rfl (lv_at hl 0 rfl) ?_
    refine g_get (k := 0) (v := .ref (ad E 7)) C I (by decide) (gk_0 E o _) rfl in_X4_change_X4 1 (by decide) (C.1.2.2.2.2 _ k_X4_change_19) rfl dX4_change_11 ?_
    refine g_get (k := 7) (v := .int (σ_2 7 1)) C I (by decide) (gk_7 E o _) rfl in_X4_change_X1 1 (by decide) (C.1.2.2.2.2 _ k_X4_change_79) rfl dX4_change_14 ?_
    obtain ⟨r_6, σ_7, hg_8, hf⟩ := bd_some hf
    refine g_csi (av := [.int a2, .int (σ_2 7 1)]) (rest := []) C I AA.new (c_X4_isBelow l E o a2 ((σ_2 7 1)) σ_2 hg_8) (cwS 2 C.1.2.2.2.2 gX4_change_X4_isBelow rfl rfl rfl (by decide +kernel) ⟨Nat.le_of_ble_eq_true rfl, Nat.le_of_ble_eq_true rfl⟩) rfl hl.1 rfl (Nat.le_of_ble_eq_true rfl) ⟨Nat.le_of_ble_eq_true rfl, Nat.le_of_ble_eq_true rfl⟩ dX4_change_17 (fun H locs I => ?_)
    refine lv_if_eq (tgt := 27) hx hb dX4_change_20 (by decide) (fun c_9 => ?_) (fun c_9 => ?_)
    · have hf := if_t hf c_9
      refine lv_iconst (v := (0 : Int32)) hx hb dX4_change_27 (by decide) ?_
      exact hJ_5 _ σ_7 H locs ls hf I (lv_sub hl [0, 1, 2, 3] rfl)
    · have hf := if_f hf c_9
      refine lv_iconst (v := (1 : Int32)) hx hb dX4_change_23 (by decide) ?_
      refine lv_goto (tgt := 28) hx hb dX4_change_24 (by decide) ?_
      exact hJ_5 _ σ_7 H locs ls hf I (lv_sub hl [0, 1, 2, 3] rfl)
abbrev rm_X4_rules : Room := { frames := 7, cells := 1, slots := 6, locals := 102 }
abbrev WW_X4_rules (p : Program) (l : Launch) (e : Env) (s : State) (m : MethodId) (args : Array Value) (below : List Frame) (meth : Method) (c : Code) (E : En) (o : Int64) (res : Ex × St) (H : Heap) (locs : List Loc) (cells slots : Nat) (g : JFrame) : Prop := W p l e (headSpec wsX4_rules rm_X4_rules).room s m args below meth c H locs cells slots (vx_MQ below (Qxv E s.heap.size o res) (XX E s.heap.size o res) args s 1 6 (AA E s.heap.size)) g
theorem k_X4_rules_34 : Cond.fieldLink RX4 34 "DaySimulate" "mark" "I" ∈ wsX4_rules := by decide +kernel
theorem k_X4_rules_30 : Cond.fieldLink RX4 30 "DaySimulate" "pace" "I" ∈ wsX4_rules := by decide +kernel
theorem in_X4_rules_X4 : ∀ w ∈ wsX40, w ∈ wsX4_rules := by decide +kernel
set_option maxHeartbeats 4000000 in
set_option maxRecDepth 100000 in
theorem c_X4_rules (l : Launch) (hst : l.stackTraces = false) (E : En) (o : Int64) (a1 : Int32) (a2 : Int32) (σ : St) {res : Ex × St} (hf : f_X4_rules a1 a2 σ = some res) : CXV l yX4_rules wsX4_rules rm_X4_rules E [.ref (ad E 0), .int a1, .int a2] o σ 1 6 res := by
  intro sz
  refine vx_ofW (cc := cX4_rules) (maxL := 3) (ret := none) (by decide) rfl ?_
  intro p e s m args below meth c s₁ B hml hex hv
  obtain ⟨rfl, hv, hZ, hN⟩ := hv
  obtain ⟨rfl, hK, I⟩ := hv.start
  have C : Cx p c cX4_rules 3 s m _ wsX4_rules RX4 E := ⟨⟨B.exec, B.bytes, hml, findClass_of_methodNamed B.named, atoms_spec (ws := wsX4_rules) B.pre⟩, hK⟩
  have hx := C.1.1
  have hb := C.1.2.1
  have hr := B.returns
  have hlocks := B.notSynchronized
  clear hv
  have hl := lv_entry ([.ref (ad E 0), .int a1, .int a2]) (n := 3) (Nat.le_of_ble_eq_true rfl)
  rw [lg_entry_eq]
  generalize (lg_sl ([.ref (ad E 0), .int a1, .int a2]) ++ List.replicate (3 - (lg_sl ([.ref (ad E 0), .int a1, .int a2])).length) Slot.unset).toArray = ls at hl ⊢
  have hl : lv_has ls 3 [(0, .ref (ad E 0)), (1, .int a1), (2, .int a2)] := hl
  generalize ([.ref (ad E 0), .int a1, .int a2] : List Value).toArray = args at C ⊢
  refine g_begin I (fun H locs I => ?_)
  rw [f_X4_rules] at hf
  refine lv_iload_n hx hb dX4_rules_0 rfl (lv_at hl 1 rfl) ?_
  refine lv_iconst (v := (1 : Int32)) hx hb dX4_rules_1 (by decide) ?_
  refine lv_bipush (v := (9 : Int32)) hx hb dX4_rules_2 (by decide) ?_
  obtain ⟨r_1, σ_2, hg_3, hf⟩ := bd_some hf
  refine g_csi (av := [.int a1, .int (1 : Int32), .int (9 : Int32)]) (rest := []) C I AA.new (c_X4_isWithin l E o a1 (1 : Int32) (9 : Int32) σ hg_3) (cwS 3 C.1.2.2.2.2 gX4_rules_X4_isWithin rfl rfl rfl (by decide +kernel) ⟨Nat.le_of_ble_eq_true rfl, Nat.le_of_ble_eq_true rfl⟩) rfl hl.1 rfl (Nat.le_of_ble_eq_true rfl) ⟨Nat.le_of_ble_eq_true rfl, Nat.le_of_ble_eq_true rfl⟩ dX4_rules_4 (fun H locs I => ?_)
  obtain ⟨J_5, eJ_5, hf⟩ := lt_split hf
  have hJ_5 : ∀ (y_10 : Int32) (σ_11 : St) (H : Heap) (locs : List Loc) (ls : Array Slot), J_5 y_10 σ_11 = some res → Iv E (AA E s.heap.size) s.heap o σ_11 H locs → lv_has ls 3 [(0, .ref (ad E 0)), (1, .int a1), (2, .int a2)] → WW_X4_rules p l e s m args below meth c E o res H locs 0 0 (F0 m 26 ls [.int y_10]) := by
    intro y_10 σ_11 H locs ls hf I hl
    rw [eJ_5] at hf
    obtain ⟨rc_18, hg_14, hn_15, ht_16⟩ := bx_some hf
    refine g_xsv (av := [.int y_10]) (rest := []) C I hZ hN hex hlocks (c_X4_needRange l hst E o y_10 σ_11 hg_14) (cwS 1 C.1.2.2.2.2 gX4_rules_X4_needRange rfl rfl rfl (by decide +kernel) ⟨Nat.le_of_ble_eq_true rfl, Nat.le_of_ble_eq_true rfl⟩) rfl hl.1 rfl (Nat.le_of_ble_eq_true rfl) ⟨Nat.le_of_ble_eq_true rfl, Nat.le_of_ble_eq_true rfl⟩ (Nat.le_of_ble_eq_true rfl) (Nat.le_of_ble_eq_true rfl) ht_16 dX4_rules_26 (fun r_12 σ_13 H locs er_17 I => ?_)
    have hf := hn_15 r_12 σ_13 er_17
    refine lv_aload_n hx hb dX4_rules_29 rfl (lv_at hl 0 rfl) ?_
    refine lv_iload_n hx hb dX4_rules_30 rfl (lv_at hl 1 rfl) ?_
    refine g_put (k := 0) (v := a1) C I (by decide) (gk_0 E o) rfl in_X4_rules_X4 tyX4 tyX4_ok nmX4 3 (by decide) (C.1.2.2.2.2 _ k_X4_rules_30) rfl (by decide +kernel) (Nat.le_of_ble_eq_true rfl) rfl dX4_rules_31 (fun H locs σ_19 eσ_19 I => ?_)
    have hf := lt_at hf eσ_19
    refine lv_aload_n hx hb dX4_rules_34 rfl (lv_at hl 0 rfl) ?_
    refine lv_iload_n hx hb dX4_rules_35 rfl (lv_at hl 2 rfl) ?_
    refine g_put (k := 0) (v := a2) C I (by decide) (gk_0 E o) rfl in_X4_rules_X4 tyX4 tyX4_ok nmX4 4 (by decide) (C.1.2.2.2.2 _ k_X4_rules_34) rfl (by decide +kernel) (Nat.le_of_ble_eq_true rfl) rfl dX4_rules_36 (fun H locs σ_20 eσ_20 I => ?_)
    have hf := lt_at hf eσ_20
    exact g_xvret C I hr hlocks (Nat.le_of_ble_eq_true rfl) (Nat.le_of_ble_eq_true rfl) hf dX4_rules_39
  refine lv_if_eq (tgt := 25) hx hb dX4_rules_7 (by decide) (fun c_4 => ?_) (fun c_4 => ?_)
  · have hf := if_t hf c_4
    refine lv_iconst (v := (0 : Int32)) hx hb dX4_rules_25 (by decide) ?_
    exact hJ_5 _ σ_2 H locs ls hf I (lv_sub hl [0, 1, 2] rfl)
  · have hf := if_f hf c_4
    refine lv_iload_n hx hb dX4_rules_10 rfl (lv_at hl 2 rfl) ?_
    refine lv_iconst (v := (0 : Int32)) hx hb dX4_rules_11 (by decide) ?_
    refine lv_sipush (v := (1000 : Int32)) hx hb dX4_rules_12 (by decide) ?_
    obtain ⟨r_6, σ_7, hg_8, hf⟩ := bd_some hf
    refine g_csi (av := [.int a2, .int (0 : Int32), .int (1000 : Int32)]) (rest := []) C I AA.new (c_X4_isWithin l E o a2 (0 : Int32) (1000 : Int32) σ_2 hg_8) (cwS 3 C.1.2.2.2.2 gX4_rules_X4_isWithin rfl rfl rfl (by decide +kernel) ⟨Nat.le_of_ble_eq_true rfl, Nat.le_of_ble_eq_true rfl⟩) rfl hl.1 rfl (Nat.le_of_ble_eq_true rfl) ⟨Nat.le_of_ble_eq_true rfl, Nat.le_of_ble_eq_true rfl⟩ dX4_rules_15 (fun H locs I => ?_)
    refine lv_if_eq (tgt := 25) hx hb dX4_rules_18 (by decide) (fun c_9 => ?_) (fun c_9 => ?_)
    · have hf := if_t hf c_9
      refine lv_iconst (v := (0 : Int32)) hx hb dX4_rules_25 (by decide) ?_
      exact hJ_5 _ σ_7 H locs ls hf I (lv_sub hl [0, 1, 2] rfl)
    · have hf := if_f hf c_9
      refine lv_iconst (v := (1 : Int32)) hx hb dX4_rules_21 (by decide) ?_
      refine lv_goto (tgt := 26) hx hb dX4_rules_22 (by decide) ?_
      exact hJ_5 _ σ_7 H locs ls hf I (lv_sub hl [0, 1, 2] rfl)
abbrev rm_X4_run : Room := { frames := 7, cells := 3, slots := 18, locals := 118 }
abbrev WW_X4_run (p : Program) (l : Launch) (e : Env) (s : State) (m : MethodId) (args : Array Value) (below : List Frame) (meth : Method) (c : Code) (E : En) (o : Int64) (res : Ex × St) (H : Heap) (locs : List Loc) (cells slots : Nat) (g : JFrame) : Prop := W p l e (headSpec wsX4_run rm_X4_run).room s m args below meth c H locs cells slots (vx_MQ below (Qxi E s.heap.size o res) (XX E s.heap.size o res) args s 3 18 (AA E s.heap.size)) g
theorem k_X4_run_59 : Cond.fieldLink RX4 59 "DaySimulate$Town" "areas" "I" ∈ wsX4_run := by decide +kernel
theorem k_X4_run_12 : Cond.fieldLink RX4 12 "DaySimulate" "town" "LDaySimulate$Town;" ∈ wsX4_run := by decide +kernel
theorem in_X4_run_X3 : ∀ w ∈ wsX30, w ∈ wsX4_run := by decide +kernel
theorem in_X4_run_X4 : ∀ w ∈ wsX40, w ∈ wsX4_run := by decide +kernel
set_option maxHeartbeats 4000000 in
set_option maxRecDepth 100000 in
theorem c_X4_run (l : Launch) (hst : l.stackTraces = false) (E : En) (o : Int64) (a1 : Int32) (a2 : Int32) (a3 : Int32) (a4 : Int32) (σ : St) {res : Ex × St} (hf : f_X4_run a1 a2 a3 a4 σ = some res) : CXI l yX4_run wsX4_run rm_X4_run E [.ref (ad E 0), .int a1, .int a2, .int a3, .int a4] o σ 3 18 res := by
  intro sz
  refine vx_ofW (cc := cX4_run) (maxL := 5) (ret := (some .int)) (by decide) rfl ?_
  intro p e s m args below meth c s₁ B hml hex hv
  obtain ⟨rfl, hv, hZ, hN⟩ := hv
  obtain ⟨rfl, hK, I⟩ := hv.start
  have C : Cx p c cX4_run 5 s m _ wsX4_run RX4 E := ⟨⟨B.exec, B.bytes, hml, findClass_of_methodNamed B.named, atoms_spec (ws := wsX4_run) B.pre⟩, hK⟩
  have hx := C.1.1
  have hb := C.1.2.1
  have hr := B.returns
  have hlocks := B.notSynchronized
  clear hv
  have hl := lv_entry ([.ref (ad E 0), .int a1, .int a2, .int a3, .int a4]) (n := 5) (Nat.le_of_ble_eq_true rfl)
  rw [lg_entry_eq]
  generalize (lg_sl ([.ref (ad E 0), .int a1, .int a2, .int a3, .int a4]) ++ List.replicate (5 - (lg_sl ([.ref (ad E 0), .int a1, .int a2, .int a3, .int a4])).length) Slot.unset).toArray = ls at hl ⊢
  have hl : lv_has ls 5 [(0, .ref (ad E 0)), (1, .int a1), (2, .int a2), (3, .int a3), (4, .int a4)] := hl
  generalize ([.ref (ad E 0), .int a1, .int a2, .int a3, .int a4] : List Value).toArray = args at C ⊢
  refine g_begin I (fun H locs I => ?_)
  rw [f_X4_run] at hf
  refine lv_iload_n hx hb dX4_run_0 rfl (lv_at hl 1 rfl) ?_
  refine lv_iconst (v := (4 : Int32)) hx hb dX4_run_1 (by decide) ?_
  obtain ⟨r_1, σ_2, hg_3, hf⟩ := bd_some hf
  refine g_csi (av := [.int a1, .int (4 : Int32)]) (rest := []) C I AA.new (c_X4_isBelow l E o a1 (4 : Int32) σ hg_3) (cwS 2 C.1.2.2.2.2 gX4_run_X4_isBelow rfl rfl rfl (by decide +kernel) ⟨Nat.le_of_ble_eq_true rfl, Nat.le_of_ble_eq_true rfl⟩) rfl hl.1 rfl (Nat.le_of_ble_eq_true rfl) ⟨Nat.le_of_ble_eq_true rfl, Nat.le_of_ble_eq_true rfl⟩ dX4_run_2 (fun H locs I => ?_)
  obtain ⟨rc_10, hg_6, hn_7, ht_8⟩ := bx_some hf
  refine g_xsv (av := [.int r_1]) (rest := []) C I hZ hN hex hlocks (c_X4_needKnown l hst E o r_1 σ_2 hg_6) (cwS 1 C.1.2.2.2.2 gX4_run_X4_needKnown rfl rfl rfl (by decide +kernel) ⟨Nat.le_of_ble_eq_true rfl, Nat.le_of_ble_eq_true rfl⟩) rfl hl.1 rfl (Nat.le_of_ble_eq_true rfl) ⟨Nat.le_of_ble_eq_true rfl, Nat.le_of_ble_eq_true rfl⟩ (Nat.le_of_ble_eq_true rfl) (Nat.le_of_ble_eq_true rfl) ht_8 dX4_run_5 (fun r_4 σ_5 H locs er_9 I => ?_)
  have hf := hn_7 r_4 σ_5 er_9
  refine lv_iload_n hx hb dX4_run_8 rfl (lv_at hl 3 rfl) ?_
  refine lv_sipush (v := (1000 : Int32)) hx hb dX4_run_9 (by decide) ?_
  obtain ⟨r_11, σ_12, hg_13, hf⟩ := bd_some hf
  refine g_csi (av := [.int a3, .int (1000 : Int32)]) (rest := []) C I AA.new (c_X4_isBelow l E o a3 (1000 : Int32) σ_5 hg_13) (cwS 2 C.1.2.2.2.2 gX4_run_X4_isBelow rfl rfl rfl (by decide +kernel) ⟨Nat.le_of_ble_eq_true rfl, Nat.le_of_ble_eq_true rfl⟩) rfl hl.1 rfl (Nat.le_of_ble_eq_true rfl) ⟨Nat.le_of_ble_eq_true rfl, Nat.le_of_ble_eq_true rfl⟩ dX4_run_12 (fun H locs I => ?_)
  obtain ⟨J_15, eJ_15, hf⟩ := lt_split hf
  have hJ_15 : ∀ (y_20 : Int32) (σ_21 : St) (H : Heap) (locs : List Loc) (ls : Array Slot), J_15 y_20 σ_21 = some res → Iv E (AA E s.heap.size) s.heap o σ_21 H locs → lv_has ls 5 [(0, .ref (ad E 0)), (1, .int a1), (2, .int a2), (3, .int a3), (4, .int a4)] → WW_X4_run p l e s m args below meth c E o res H locs 1 6 (F0 m 34 ls [.int y_20]) := by
    intro y_20 σ_21 H locs ls hf I hl
    rw [eJ_15] at hf
    obtain ⟨rc_28, hg_24, hn_25, ht_26⟩ := bx_some hf
    refine g_xsv (av := [.int y_20]) (rest := []) C I hZ hN hex hlocks (c_X4_needRange l hst E o y_20 σ_21 hg_24) (cwS 1 C.1.2.2.2.2 gX4_run_X4_needRange rfl rfl rfl (by decide +kernel) ⟨Nat.le_of_ble_eq_true rfl, Nat.le_of_ble_eq_true rfl⟩) rfl hl.1 rfl (Nat.le_of_ble_eq_true rfl) ⟨Nat.le_of_ble_eq_true rfl, Nat.le_of_ble_eq_true rfl⟩ (Nat.le_of_ble_eq_true rfl) (Nat.le_of_ble_eq_true rfl) ht_26 dX4_run_34 (fun r_22 σ_23 H locs er_27 I => ?_)
    have hf := hn_25 r_22 σ_23 er_27
    refine lv_iload hx hb dX4_run_37 (lv_at hl 4 rfl) ?_
    obtain ⟨J_30, eJ_30, hf⟩ := lt_split hf
    have hJ_30 : ∀ (y_32 : Int32) (σ_33 : St) (H : Heap) (locs : List Loc) (ls : Array Slot), J_30 y_32 σ_33 = some res → Iv E (AA E s.heap.size) s.heap o σ_33 H locs → lv_has ls 5 [(0, .ref (ad E 0)), (1, .int a1), (2, .int a2), (3, .int a3), (4, .int a4)] → WW_X4_run p l e s m args below meth c E o res H locs 2 12 (F0 m 57 ls [.int y_32]) := by
      intro y_32 σ_33 H locs ls hf I hl
      rw [eJ_30] at hf
      obtain ⟨rc_40, hg_36, hn_37, ht_38⟩ := bx_some hf
      refine g_xsv (av := [.int y_32]) (rest := []) C I hZ hN hex hlocks (c_X4_needState l hst E o y_32 σ_33 hg_36) (cwS 1 C.1.2.2.2.2 gX4_run_X4_needState rfl rfl rfl (by decide +kernel) ⟨Nat.le_of_ble_eq_true rfl, Nat.le_of_ble_eq_true rfl⟩) rfl hl.1 rfl (Nat.le_of_ble_eq_true rfl) ⟨Nat.le_of_ble_eq_true rfl, Nat.le_of_ble_eq_true rfl⟩ (Nat.le_of_ble_eq_true rfl) (Nat.le_of_ble_eq_true rfl) ht_38 dX4_run_57 (fun r_34 σ_35 H locs er_39 I => ?_)
      have hf := hn_37 r_34 σ_35 er_39
      refine lv_aload_n hx hb dX4_run_60 rfl (lv_at hl 0 rfl) ?_
      refine lv_iload_n hx hb dX4_run_61 rfl (lv_at hl 1 rfl) ?_
      refine lv_iload_n hx hb dX4_run_62 rfl (lv_at hl 2 rfl) ?_
      refine lv_iload_n hx hb dX4_run_63 rfl (lv_at hl 3 rfl) ?_
      refine lv_iload hx hb dX4_run_64 (lv_at hl 4 rfl) ?_
      obtain ⟨r_41, σ_42, hg_43, hf⟩ := bd_some hf
      refine g_cvi (av := [.int a1, .int a2, .int a3, .int a4]) (rest := []) (k := 0) C I AA.new (c_X4_lateOn l E o a1 a2 a3 a4 σ_35 hg_43) (cwV 4 C.1.2.2.2.2 gX4_run_X4_lateOn rfl rfl rfl (by decide +kernel) ⟨Nat.le_of_ble_eq_true rfl, Nat.le_of_ble_eq_true rfl⟩) (by decide) (gk_0 E o _) rfl rfl rfl hl.1 rfl (Nat.le_of_ble_eq_true rfl) ⟨Nat.le_of_ble_eq_true rfl, Nat.le_of_ble_eq_true rfl⟩ dX4_run_66 (fun H locs I => ?_)
      exact g_xiret C I hr hlocks (Nat.le_of_ble_eq_true rfl) (Nat.le_of_ble_eq_true rfl) hf dX4_run_69
    refine lv_if_eq (tgt := 52) hx hb dX4_run_39 (by decide) (fun c_29 => ?_) (fun c_29 => ?_)
    · have hf := if_t hf c_29
      refine lv_iconst (v := (1 : Int32)) hx hb dX4_run_52 (by decide) ?_
      refine lv_goto (tgt := 57) hx hb dX4_run_53 (by decide) ?_
      exact hJ_30 _ σ_23 H locs ls hf I (lv_sub hl [0, 1, 2, 3, 4] rfl)
    · have hf := if_f hf c_29
      refine lv_aload_n hx hb dX4_run_42 rfl (lv_at hl 0 rfl) ?_
      refine g_get (k := 0) (v := .ref (ad E 1)) C I (by decide) (gk_0 E o _) rfl in_X4_run_X4 0 (by decide) (C.1.2.2.2.2 _ k_X4_run_12) rfl dX4_run_43 ?_
      refine g_get (k := 1) (v := .int (σ_23 1 6)) C I (by decide) (gk_1 E o _) rfl in_X4_run_X3 6 (by decide) (C.1.2.2.2.2 _ k_X4_run_59) rfl dX4_run_46 ?_
      refine lv_if_le (tgt := 56) hx hb dX4_run_49 (by decide) (fun c_31 => ?_) (fun c_31 => ?_)
      · have hf := if_t hf c_31
        refine lv_iconst (v := (0 : Int32)) hx hb dX4_run_56 (by decide) ?_
        exact hJ_30 _ σ_23 H locs ls hf I (lv_sub hl [0, 1, 2, 3, 4] rfl)
      · have hf := if_f hf c_31
        refine lv_iconst (v := (1 : Int32)) hx hb dX4_run_52 (by decide) ?_
        refine lv_goto (tgt := 57) hx hb dX4_run_53 (by decide) ?_
        exact hJ_30 _ σ_23 H locs ls hf I (lv_sub hl [0, 1, 2, 3, 4] rfl)
  refine lv_if_eq (tgt := 33) hx hb dX4_run_15 (by decide) (fun c_14 => ?_) (fun c_14 => ?_)
  · have hf := if_t hf c_14
    refine lv_iconst (v := (0 : Int32)) hx hb dX4_run_33 (by decide) ?_
    exact hJ_15 _ σ_12 H locs ls hf I (lv_sub hl [0, 1, 2, 3, 4] rfl)
  · have hf := if_f hf c_14
    refine lv_iload hx hb dX4_run_18 (lv_at hl 4 rfl) ?_
    refine lv_iconst (v := (0 : Int32)) hx hb dX4_run_20 (by decide) ?_
    refine lv_bipush (v := (60 : Int32)) hx hb dX4_run_21 (by decide) ?_
    obtain ⟨r_16, σ_17, hg_18, hf⟩ := bd_some hf
    refine g_csi (av := [.int a4, .int (0 : Int32), .int (60 : Int32)]) (rest := []) C I AA.new (c_X4_isWithin l E o a4 (0 : Int32) (60 : Int32) σ_12 hg_18) (cwS 3 C.1.2.2.2.2 gX4_run_X4_isWithin rfl rfl rfl (by decide +kernel) ⟨Nat.le_of_ble_eq_true rfl, Nat.le_of_ble_eq_true rfl⟩) rfl hl.1 rfl (Nat.le_of_ble_eq_true rfl) ⟨Nat.le_of_ble_eq_true rfl, Nat.le_of_ble_eq_true rfl⟩ dX4_run_23 (fun H locs I => ?_)
    refine lv_if_eq (tgt := 33) hx hb dX4_run_26 (by decide) (fun c_19 => ?_) (fun c_19 => ?_)
    · have hf := if_t hf c_19
      refine lv_iconst (v := (0 : Int32)) hx hb dX4_run_33 (by decide) ?_
      exact hJ_15 _ σ_17 H locs ls hf I (lv_sub hl [0, 1, 2, 3, 4] rfl)
    · have hf := if_f hf c_19
      refine lv_iconst (v := (1 : Int32)) hx hb dX4_run_29 (by decide) ?_
      refine lv_goto (tgt := 34) hx hb dX4_run_30 (by decide) ?_
      exact hJ_15 _ σ_17 H locs ls hf I (lv_sub hl [0, 1, 2, 3, 4] rfl)
abbrev rm_X4_call : Room := { frames := 7, cells := 2, slots := 12, locals := 102 }
abbrev WW_X4_call (p : Program) (l : Launch) (e : Env) (s : State) (m : MethodId) (args : Array Value) (below : List Frame) (meth : Method) (c : Code) (E : En) (o : Int64) (res : Ex × St) (H : Heap) (locs : List Loc) (cells slots : Nat) (g : JFrame) : Prop := W p l e (headSpec wsX4_call rm_X4_call).room s m args below meth c H locs cells slots (vx_MQ below (Qxi E s.heap.size o res) (XX E s.heap.size o res) args s 2 12 (AA E s.heap.size)) g
theorem k_X4_call_106 : Cond.fieldLink RX4 106 "DaySimulate$Day" "minute" "[I" ∈ wsX4_call := by decide +kernel
theorem k_X4_call_110 : Cond.fieldLink RX4 110 "DaySimulate$Day" "area" "[I" ∈ wsX4_call := by decide +kernel
theorem k_X4_call_113 : Cond.fieldLink RX4 113 "DaySimulate$Day" "rank" "[I" ∈ wsX4_call := by decide +kernel
theorem k_X4_call_116 : Cond.fieldLink RX4 116 "DaySimulate$Play" "unitOf" "[I" ∈ wsX4_call := by decide +kernel
theorem k_X4_call_26 : Cond.fieldLink RX4 26 "DaySimulate" "play" "LDaySimulate$Play;" ∈ wsX4_call := by decide +kernel
theorem k_X4_call_34 : Cond.fieldLink RX4 34 "DaySimulate" "mark" "I" ∈ wsX4_call := by decide +kernel
theorem k_X4_call_125 : Cond.classLink RX4 125 "java/lang/IllegalArgumentException" ∈ wsX4_call := by decide +kernel
theorem k_X4_call_ini125 : Cond.initialized "java/lang/IllegalArgumentException" ∈ wsX4_call := by decide +kernel
theorem k_X4_call_101 : Cond.fieldLink RX4 101 "DaySimulate$Day" "calls" "I" ∈ wsX4_call := by decide +kernel
theorem k_X4_call_97 : Cond.fieldLink RX4 97 "DaySimulate$Play" "day" "LDaySimulate$Day;" ∈ wsX4_call := by decide +kernel
theorem in_X4_call_X0 : ∀ w ∈ wsX00, w ∈ wsX4_call := by decide +kernel
theorem in_X4_call_X2 : ∀ w ∈ wsX20, w ∈ wsX4_call := by decide +kernel
theorem in_X4_call_X4 : ∀ w ∈ wsX40, w ∈ wsX4_call := by decide +kernel
theorem at_X4_call_129 : ∀ w ∈ (vx_atS RX4 129 "java/lang/IllegalArgumentException" RTN).filter goodWord, w ∈ wsX4_call := by decide +kernel
set_option maxHeartbeats 4000000 in
set_option maxRecDepth 100000 in
theorem c_X4_call (l : Launch) (hst : l.stackTraces = false) (E : En) (o : Int64) (a1 : Int32) (a2 : Int32) (σ : St) {res : Ex × St} (hf : f_X4_call a1 a2 σ = some res) : CXI l yX4_call wsX4_call rm_X4_call E [.ref (ad E 0), .int a1, .int a2] o σ 2 12 res := by
  intro sz
  refine vx_ofW (cc := cX4_call) (maxL := 4) (ret := (some .int)) (by decide) rfl ?_
  intro p e s m args below meth c s₁ B hml hex hv
  obtain ⟨rfl, hv, hZ, hN⟩ := hv
  obtain ⟨rfl, hK, I⟩ := hv.start
  have C : Cx p c cX4_call 4 s m _ wsX4_call RX4 E := ⟨⟨B.exec, B.bytes, hml, findClass_of_methodNamed B.named, atoms_spec (ws := wsX4_call) B.pre⟩, hK⟩
  have hx := C.1.1
  have hb := C.1.2.1
  have hr := B.returns
  have hlocks := B.notSynchronized
  clear hv
  have hl := lv_entry ([.ref (ad E 0), .int a1, .int a2]) (n := 4) (Nat.le_of_ble_eq_true rfl)
  rw [lg_entry_eq]
  generalize (lg_sl ([.ref (ad E 0), .int a1, .int a2]) ++ List.replicate (4 - (lg_sl ([.ref (ad E 0), .int a1, .int a2])).length) Slot.unset).toArray = ls at hl ⊢
  have hl : lv_has ls 4 [(0, .ref (ad E 0)), (1, .int a1), (2, .int a2)] := hl
  generalize ([.ref (ad E 0), .int a1, .int a2] : List Value).toArray = args at C ⊢
  refine g_begin I (fun H locs I => ?_)
  rw [f_X4_call] at hf
  refine lv_aload_n hx hb dX4_call_0 rfl (lv_at hl 0 rfl) ?_
  refine g_get (k := 0) (v := .ref (ad E 13)) C I (by decide) (gk_0 E o _) rfl in_X4_call_X4 2 (by decide) (C.1.2.2.2.2 _ k_X4_call_26) rfl dX4_call_1 ?_
  refine g_get (k := 13) (v := .ref (ad E 34)) C I (by decide) (gk_13 E o _) rfl in_X4_call_X2 0 (by decide) (C.1.2.2.2.2 _ k_X4_call_97) rfl dX4_call_4 ?_
  refine lv_astore_n (lv' := [(3, .ref (ad E 34)), (0, .ref (ad E 0)), (1, .int a1), (2, .int a2)]) hx hb dX4_call_7 rfl hl (by decide) rfl (fun ls hl => ?_)
  refine lv_iload_n hx hb dX4_call_8 rfl (lv_at hl 2 rfl) ?_
  refine lv_aload_n hx hb dX4_call_9 rfl (lv_at hl 0 rfl) ?_
  refine g_get (k := 34) (v := .int (σ 34 4)) C I (by decide) (gk_34 E o _) rfl in_X4_call_X0 4 (by decide) (C.1.2.2.2.2 _ k_X4_call_101) rfl dX4_call_10 ?_
  obtain ⟨r_1, σ_2, hg_3, hf⟩ := bd_some hf
  refine g_csi (av := [.int a1, .int (σ 34 4)]) (rest := []) C I AA.new (c_X4_isBelow l E o a1 ((σ 34 4)) σ hg_3) (cwS 2 C.1.2.2.2.2 gX4_call_X4_isBelow rfl rfl rfl (by decide +kernel) ⟨Nat.le_of_ble_eq_true rfl, Nat.le_of_ble_eq_true rfl⟩) rfl hl.1 rfl (Nat.le_of_ble_eq_true rfl) ⟨Nat.le_of_ble_eq_true rfl, Nat.le_of_ble_eq_true rfl⟩ dX4_call_13 (fun H locs I => ?_)
  obtain ⟨rc_10, hg_6, hn_7, ht_8⟩ := bx_some hf
  refine g_xsv (av := [.int r_1]) (rest := []) C I hZ hN hex hlocks (c_X4_needKnown l hst E o r_1 σ_2 hg_6) (cwS 1 C.1.2.2.2.2 gX4_call_X4_needKnown rfl rfl rfl (by decide +kernel) ⟨Nat.le_of_ble_eq_true rfl, Nat.le_of_ble_eq_true rfl⟩) rfl hl.1 rfl (Nat.le_of_ble_eq_true rfl) ⟨Nat.le_of_ble_eq_true rfl, Nat.le_of_ble_eq_true rfl⟩ (Nat.le_of_ble_eq_true rfl) (Nat.le_of_ble_eq_true rfl) ht_8 dX4_call_16 (fun r_4 σ_5 H locs er_9 I => ?_)
  have hf := hn_7 r_4 σ_5 er_9
  refine lv_iload_n hx hb dX4_call_19 rfl (lv_at hl 3 rfl) ?_
  by_cases c_11 : a2 = (0 : Int32)
  · have hf := if_t hf c_11
    refine lv_tableIn (tgt := 60) (off := 40) hx hb dX4_call_20 (by rw [c_11]; decide) (by rw [c_11]; decide) (by rw [c_11]; rfl) (by decide) ?_
    refine lv_aload_n hx hb dX4_call_60 rfl (lv_at hl 0 rfl) ?_
    refine g_get (k := 34) (v := .ref (ad E 35)) C I (by decide) (gk_34 E o _) rfl in_X4_call_X0 0 (by decide) (C.1.2.2.2.2 _ k_X4_call_106) rfl dX4_call_61 ?_
    refine lv_iload_n hx hb dX4_call_64 rfl (lv_at hl 2 rfl) ?_
    obtain ⟨h_17, hf⟩ := ck_some hf
    refine g_iald (k := 35) C I (by decide) (gk_35 E o) (ixb_in h_17) dX4_call_65 ?_
    exact g_xiret C I hr hlocks (Nat.le_of_ble_eq_true rfl) (Nat.le_of_ble_eq_true rfl) hf dX4_call_66
  · have hf := if_f hf c_11
    by_cases c_12 : a2 = (1 : Int32)
    · have hf := if_t hf c_12
      refine lv_tableIn (tgt := 67) (off := 47) hx hb dX4_call_20 (by rw [c_12]; decide) (by rw [c_12]; decide) (by rw [c_12]; rfl) (by decide) ?_
      refine lv_aload_n hx hb dX4_call_67 rfl (lv_at hl 0 rfl) ?_
      refine g_get (k := 34) (v := .ref (ad E 36)) C I (by decide) (gk_34 E o _) rfl in_X4_call_X0 1 (by decide) (C.1.2.2.2.2 _ k_X4_call_110) rfl dX4_call_68 ?_
      refine lv_iload_n hx hb dX4_call_71 rfl (lv_at hl 2 rfl) ?_
      obtain ⟨h_18, hf⟩ := ck_some hf
      refine g_iald (k := 36) C I (by decide) (gk_36 E o) (ixb_in h_18) dX4_call_72 ?_
      exact g_xiret C I hr hlocks (Nat.le_of_ble_eq_true rfl) (Nat.le_of_ble_eq_true rfl) hf dX4_call_73
    · have hf := if_f hf c_12
      by_cases c_13 : a2 = (2 : Int32)
      · have hf := if_t hf c_13
        refine lv_tableIn (tgt := 74) (off := 54) hx hb dX4_call_20 (by rw [c_13]; decide) (by rw [c_13]; decide) (by rw [c_13]; rfl) (by decide) ?_
        refine lv_aload_n hx hb dX4_call_74 rfl (lv_at hl 0 rfl) ?_
        refine g_get (k := 34) (v := .ref (ad E 37)) C I (by decide) (gk_34 E o _) rfl in_X4_call_X0 2 (by decide) (C.1.2.2.2.2 _ k_X4_call_113) rfl dX4_call_75 ?_
        refine lv_iload_n hx hb dX4_call_78 rfl (lv_at hl 2 rfl) ?_
        obtain ⟨h_19, hf⟩ := ck_some hf
        refine g_iald (k := 37) C I (by decide) (gk_37 E o) (ixb_in h_19) dX4_call_79 ?_
        exact g_xiret C I hr hlocks (Nat.le_of_ble_eq_true rfl) (Nat.le_of_ble_eq_true rfl) hf dX4_call_80
      · have hf := if_f hf c_13
        by_cases c_14 : a2 = (3 : Int32)
        · have hf := if_t hf c_14
          refine lv_tableIn (tgt := 81) (off := 61) hx hb dX4_call_20 (by rw [c_14]; decide) (by rw [c_14]; decide) (by rw [c_14]; rfl) (by decide) ?_
          refine lv_aload_n hx hb dX4_call_81 rfl (lv_at hl 1 rfl) ?_
          refine g_get (k := 0) (v := .ref (ad E 13)) C I (by decide) (gk_0 E o _) rfl in_X4_call_X4 2 (by decide) (C.1.2.2.2.2 _ k_X4_call_26) rfl dX4_call_82 ?_
          refine g_get (k := 13) (v := .ref (ad E 14)) C I (by decide) (gk_13 E o _) rfl in_X4_call_X2 1 (by decide) (C.1.2.2.2.2 _ k_X4_call_116) rfl dX4_call_85 ?_
          refine lv_iload_n hx hb dX4_call_88 rfl (lv_at hl 2 rfl) ?_
          obtain ⟨h_20, hf⟩ := ck_some hf
          refine g_iald (k := 14) C I (by decide) (gk_14 E o) (ixb_in h_20) dX4_call_89 ?_
          exact g_xiret C I hr hlocks (Nat.le_of_ble_eq_true rfl) (Nat.le_of_ble_eq_true rfl) hf dX4_call_90
        · have hf := if_f hf c_14
          by_cases c_15 : a2 = (4 : Int32)
          · have hf := if_t hf c_15
            refine lv_tableIn (tgt := 91) (off := 71) hx hb dX4_call_20 (by rw [c_15]; decide) (by rw [c_15]; decide) (by rw [c_15]; rfl) (by decide) ?_
            refine lv_aload_n hx hb dX4_call_91 rfl (lv_at hl 1 rfl) ?_
            refine g_get (k := 0) (v := .ref (ad E 13)) C I (by decide) (gk_0 E o _) rfl in_X4_call_X4 2 (by decide) (C.1.2.2.2.2 _ k_X4_call_26) rfl dX4_call_92 ?_
            refine lv_iload_n hx hb dX4_call_95 rfl (lv_at hl 2 rfl) ?_
            obtain ⟨r_21, σ_22, hg_23, hf⟩ := bd_some hf
            refine g_cvi (av := [.int a1]) (rest := []) (k := 13) C I AA.new (c_X2_delay l E o a1 σ_5 hg_23) (cwV 1 C.1.2.2.2.2 gX4_call_X2_delay rfl rfl rfl (by decide +kernel) ⟨Nat.le_of_ble_eq_true rfl, Nat.le_of_ble_eq_true rfl⟩) (by decide) (gk_13 E o _) rfl rfl rfl hl.1 rfl (Nat.le_of_ble_eq_true rfl) ⟨Nat.le_of_ble_eq_true rfl, Nat.le_of_ble_eq_true rfl⟩ dX4_call_96 (fun H locs I => ?_)
            exact g_xiret C I hr hlocks (Nat.le_of_ble_eq_true rfl) (Nat.le_of_ble_eq_true rfl) hf dX4_call_99
          · have hf := if_f hf c_15
            by_cases c_16 : a2 = (5 : Int32)
            · have hf := if_t hf c_16
              refine lv_tableIn (tgt := 100) (off := 80) hx hb dX4_call_20 (by rw [c_16]; decide) (by rw [c_16]; decide) (by rw [c_16]; rfl) (by decide) ?_
              refine lv_aload_n hx hb dX4_call_100 rfl (lv_at hl 1 rfl) ?_
              refine g_get (k := 0) (v := .ref (ad E 13)) C I (by decide) (gk_0 E o _) rfl in_X4_call_X4 2 (by decide) (C.1.2.2.2.2 _ k_X4_call_26) rfl dX4_call_101 ?_
              refine lv_iload_n hx hb dX4_call_104 rfl (lv_at hl 2 rfl) ?_
              refine lv_aload_n hx hb dX4_call_105 rfl (lv_at hl 1 rfl) ?_
              refine g_get (k := 0) (v := .int (σ_5 0 4)) C I (by decide) (gk_0 E o _) rfl in_X4_call_X4 4 (by decide) (C.1.2.2.2.2 _ k_X4_call_34) rfl dX4_call_106 ?_
              obtain ⟨r_24, σ_25, hg_26, hf⟩ := bd_some hf
              refine g_cvi (av := [.int a1, .int (σ_5 0 4)]) (rest := []) (k := 13) C I AA.new (c_X2_whyLate l E o a1 ((σ_5 0 4)) σ_5 hg_26) (cwV 2 C.1.2.2.2.2 gX4_call_X2_whyLate rfl rfl rfl (by decide +kernel) ⟨Nat.le_of_ble_eq_true rfl, Nat.le_of_ble_eq_true rfl⟩) (by decide) (gk_13 E o _) rfl rfl rfl hl.1 rfl (Nat.le_of_ble_eq_true rfl) ⟨Nat.le_of_ble_eq_true rfl, Nat.le_of_ble_eq_true rfl⟩ dX4_call_109 (fun H locs I => ?_)
              exact g_xiret C I hr hlocks (Nat.le_of_ble_eq_true rfl) (Nat.le_of_ble_eq_true rfl) hf dX4_call_112
            · have hf := if_f hf c_16
              refine lv_tableOut (tgt := 113) hx hb dX4_call_20 (sw_out 5 (fun k hk => by match k, hk with | 0, _ => exact c_11 | 1, _ => exact c_12 | 2, _ => exact c_13 | 3, _ => exact c_14 | 4, _ => exact c_15 | 5, _ => exact c_16)) (by decide) ?_
              exact g_throw (text := "no such what") C I hst hZ hN hex hlocks hl.1 (by decide) (by decide) (by decide) k_X4_call_125 k_X4_call_ini125 at_X4_call_129 ng_129 gd_129_125 dX4_call_113 dX4_call_116 dX4_call_117 dX4_call_119 dX4_call_122 (Nat.le_of_ble_eq_true rfl) (Nat.le_of_ble_eq_true rfl) (Nat.le_of_ble_eq_true rfl) (Nat.le_of_ble_eq_true rfl) (Nat.le_of_ble_eq_true rfl) (Nat.le_of_ble_eq_true rfl) hf
abbrev rm_X4_share : Room := { frames := 7, cells := 2, slots := 12, locals := 102 }
abbrev WW_X4_share (p : Program) (l : Launch) (e : Env) (s : State) (m : MethodId) (args : Array Value) (below : List Frame) (meth : Method) (c : Code) (E : En) (o : Int64) (res : Ex × St) (H : Heap) (locs : List Loc) (cells slots : Nat) (g : JFrame) : Prop := W p l e (headSpec wsX4_share rm_X4_share).room s m args below meth c H locs cells slots (vx_MQ below (Qxi E s.heap.size o res) (XX E s.heap.size o res) args s 2 12 (AA E s.heap.size)) g
theorem k_X4_share_34 : Cond.fieldLink RX4 34 "DaySimulate" "mark" "I" ∈ wsX4_share := by decide +kernel
theorem k_X4_share_26 : Cond.fieldLink RX4 26 "DaySimulate" "play" "LDaySimulate$Play;" ∈ wsX4_share := by decide +kernel
theorem k_X4_share_132 : Cond.classLink RX4 132 "java/lang/ArithmeticException" ∈ wsX4_share := by decide +kernel
theorem k_X4_share_ini132 : Cond.initialized "java/lang/ArithmeticException" ∈ wsX4_share := by decide +kernel
theorem k_X4_share_101 : Cond.fieldLink RX4 101 "DaySimulate$Day" "calls" "I" ∈ wsX4_share := by decide +kernel
theorem k_X4_share_97 : Cond.fieldLink RX4 97 "DaySimulate$Play" "day" "LDaySimulate$Day;" ∈ wsX4_share := by decide +kernel
theorem in_X4_share_X0 : ∀ w ∈ wsX00, w ∈ wsX4_share := by decide +kernel
theorem in_X4_share_X2 : ∀ w ∈ wsX20, w ∈ wsX4_share := by decide +kernel
theorem in_X4_share_X4 : ∀ w ∈ wsX40, w ∈ wsX4_share := by decide +kernel
theorem at_X4_share_136 : ∀ w ∈ (vx_atS RX4 136 "java/lang/ArithmeticException" RTN).filter goodWord, w ∈ wsX4_share := by decide +kernel
set_option maxHeartbeats 4000000 in
set_option maxRecDepth 100000 in
theorem c_X4_share (l : Launch) (hst : l.stackTraces = false) (E : En) (o : Int64) (a1 : Int32) (σ : St) {res : Ex × St} (hf : f_X4_share a1 σ = some res) : CXI l yX4_share wsX4_share rm_X4_share E [.ref (ad E 0), .int a1] o σ 2 12 res := by
  intro sz
  refine vx_ofW (cc := cX4_share) (maxL := 3) (ret := (some .int)) (by decide) rfl ?_
  intro p e s m args below meth c s₁ B hml hex hv
  obtain ⟨rfl, hv, hZ, hN⟩ := hv
  obtain ⟨rfl, hK, I⟩ := hv.start
  have C : Cx p c cX4_share 3 s m _ wsX4_share RX4 E := ⟨⟨B.exec, B.bytes, hml, findClass_of_methodNamed B.named, atoms_spec (ws := wsX4_share) B.pre⟩, hK⟩
  have hx := C.1.1
  have hb := C.1.2.1
  have hr := B.returns
  have hlocks := B.notSynchronized
  clear hv
  have hl := lv_entry ([.ref (ad E 0), .int a1]) (n := 3) (Nat.le_of_ble_eq_true rfl)
  rw [lg_entry_eq]
  generalize (lg_sl ([.ref (ad E 0), .int a1]) ++ List.replicate (3 - (lg_sl ([.ref (ad E 0), .int a1])).length) Slot.unset).toArray = ls at hl ⊢
  have hl : lv_has ls 3 [(0, .ref (ad E 0)), (1, .int a1)] := hl
  generalize ([.ref (ad E 0), .int a1] : List Value).toArray = args at C ⊢
  refine g_begin I (fun H locs I => ?_)
  rw [f_X4_share] at hf
  refine lv_iload_n hx hb dX4_share_0 rfl (lv_at hl 1 rfl) ?_
  refine lv_iconst (v := (0 : Int32)) hx hb dX4_share_1 (by decide) ?_
  refine lv_iconst (v := (1 : Int32)) hx hb dX4_share_2 (by decide) ?_
  obtain ⟨r_1, σ_2, hg_3, hf⟩ := bd_some hf
  refine g_csi (av := [.int a1, .int (0 : Int32), .int (1 : Int32)]) (rest := []) C I AA.new (c_X4_isWithin l E o a1 (0 : Int32) (1 : Int32) σ hg_3) (cwS 3 C.1.2.2.2.2 gX4_share_X4_isWithin rfl rfl rfl (by decide +kernel) ⟨Nat.le_of_ble_eq_true rfl, Nat.le_of_ble_eq_true rfl⟩) rfl hl.1 rfl (Nat.le_of_ble_eq_true rfl) ⟨Nat.le_of_ble_eq_true rfl, Nat.le_of_ble_eq_true rfl⟩ dX4_share_3 (fun H locs I => ?_)
  obtain ⟨rc_10, hg_6, hn_7, ht_8⟩ := bx_some hf
  refine g_xsv (av := [.int r_1]) (rest := []) C I hZ hN hex hlocks (c_X4_needKnown l hst E o r_1 σ_2 hg_6) (cwS 1 C.1.2.2.2.2 gX4_share_X4_needKnown rfl rfl rfl (by decide +kernel) ⟨Nat.le_of_ble_eq_true rfl, Nat.le_of_ble_eq_true rfl⟩) rfl hl.1 rfl (Nat.le_of_ble_eq_true rfl) ⟨Nat.le_of_ble_eq_true rfl, Nat.le_of_ble_eq_true rfl⟩ (Nat.le_of_ble_eq_true rfl) (Nat.le_of_ble_eq_true rfl) ht_8 dX4_share_6 (fun r_4 σ_5 H locs er_9 I => ?_)
  have hf := hn_7 r_4 σ_5 er_9
  refine lv_aload_n hx hb dX4_share_9 rfl (lv_at hl 0 rfl) ?_
  refine g_get (k := 0) (v := .ref (ad E 13)) C I (by decide) (gk_0 E o _) rfl in_X4_share_X4 2 (by decide) (C.1.2.2.2.2 _ k_X4_share_26) rfl dX4_share_10 ?_
  refine g_get (k := 13) (v := .ref (ad E 34)) C I (by decide) (gk_13 E o _) rfl in_X4_share_X2 0 (by decide) (C.1.2.2.2.2 _ k_X4_share_97) rfl dX4_share_13 ?_
  refine g_get (k := 34) (v := .int (σ_5 34 4)) C I (by decide) (gk_34 E o _) rfl in_X4_share_X0 4 (by decide) (C.1.2.2.2.2 _ k_X4_share_101) rfl dX4_share_16 ?_
  refine lv_topi (fun x_11 ex_11 => ?_)
  have hf := lt_at hf ex_11
  refine lv_istore_n (lv' := [(2, .int x_11), (0, .ref (ad E 0)), (1, .int a1)]) hx hb dX4_share_19 rfl hl (by decide) rfl (fun ls hl => ?_)
  refine lv_iload_n hx hb dX4_share_20 rfl (lv_at hl 0 rfl) ?_
  refine lv_if_ne (tgt := 34) hx hb dX4_share_21 (by decide) (fun c_12 => ?_) (fun c_12 => ?_)
  · have hf := if_f hf c_12
    refine lv_iload_n hx hb dX4_share_34 rfl (lv_at hl 0 rfl) ?_
    refine lv_aload_n hx hb dX4_share_35 rfl (lv_at hl 1 rfl) ?_
    refine g_get (k := 0) (v := .ref (ad E 13)) C I (by decide) (gk_0 E o _) rfl in_X4_share_X4 2 (by decide) (C.1.2.2.2.2 _ k_X4_share_26) rfl dX4_share_36 ?_
    refine lv_aload_n hx hb dX4_share_39 rfl (lv_at hl 1 rfl) ?_
    refine g_get (k := 0) (v := .int (σ_5 0 4)) C I (by decide) (gk_0 E o _) rfl in_X4_share_X4 4 (by decide) (C.1.2.2.2.2 _ k_X4_share_34) rfl dX4_share_40 ?_
    obtain ⟨r_13, σ_14, hg_15, hf⟩ := bd_some hf
    refine g_cvi (av := [.int (σ_5 0 4)]) (rest := [.int x_11]) (k := 13) C I AA.new (c_X2_countLate l E o ((σ_5 0 4)) σ_5 hg_15) (cwV 1 C.1.2.2.2.2 gX4_share_X2_countLate rfl rfl rfl (by decide +kernel) ⟨Nat.le_of_ble_eq_true rfl, Nat.le_of_ble_eq_true rfl⟩) (by decide) (gk_13 E o _) rfl rfl rfl hl.1 rfl (Nat.le_of_ble_eq_true rfl) ⟨Nat.le_of_ble_eq_true rfl, Nat.le_of_ble_eq_true rfl⟩ dX4_share_43 (fun H locs I => ?_)
    refine lv_isub hx hb dX4_share_46 ?_
    refine lv_iload_n hx hb dX4_share_47 rfl (lv_at hl 0 rfl) ?_
    refine lv_iload_n hx hb dX4_share_48 rfl (lv_at hl 2 rfl) ?_
    refine lv_if_ne (tgt := 56) hx hb dX4_share_49 (by decide) (fun c_16 => ?_) (fun c_16 => ?_)
    · have hf := if_f hf c_16
      refine lv_iconst (v := (0 : Int32)) hx hb dX4_share_56 (by decide) ?_
      obtain ⟨r_17, σ_18, hg_19, hf⟩ := bd_some hf
      refine g_csi (av := [.int (x_11 - r_13), .int x_11, .int (0 : Int32)]) (rest := []) C I AA.new (c_X4_lowestTerm l E o ((x_11 - r_13)) x_11 (0 : Int32) σ_14 hg_19) (cwS 3 C.1.2.2.2.2 gX4_share_X4_lowestTerm rfl rfl rfl (by decide +kernel) ⟨Nat.le_of_ble_eq_true rfl, Nat.le_of_ble_eq_true rfl⟩) rfl hl.1 rfl (Nat.le_of_ble_eq_true rfl) ⟨Nat.le_of_ble_eq_true rfl, Nat.le_of_ble_eq_true rfl⟩ dX4_share_57 (fun H locs I => ?_)
      exact g_xiret C I hr hlocks (Nat.le_of_ble_eq_true rfl) (Nat.le_of_ble_eq_true rfl) hf dX4_share_60
    · have hf := if_t hf c_16
      refine lv_iconst (v := (1 : Int32)) hx hb dX4_share_52 (by decide) ?_
      refine lv_goto (tgt := 57) hx hb dX4_share_53 (by decide) ?_
      obtain ⟨r_20, σ_21, hg_22, hf⟩ := bd_some hf
      refine g_csi (av := [.int (x_11 - r_13), .int x_11, .int (1 : Int32)]) (rest := []) C I AA.new (c_X4_lowestTerm l E o ((x_11 - r_13)) x_11 (1 : Int32) σ_14 hg_22) (cwS 3 C.1.2.2.2.2 gX4_share_X4_lowestTerm rfl rfl rfl (by decide +kernel) ⟨Nat.le_of_ble_eq_true rfl, Nat.le_of_ble_eq_true rfl⟩) rfl hl.1 rfl (Nat.le_of_ble_eq_true rfl) ⟨Nat.le_of_ble_eq_true rfl, Nat.le_of_ble_eq_true rfl⟩ dX4_share_57 (fun H locs I => ?_)
      exact g_xiret C I hr hlocks (Nat.le_of_ble_eq_true rfl) (Nat.le_of_ble_eq_true rfl) hf dX4_share_60
  · have hf := if_t hf c_12
    exact g_throw (text := "the run has no calls") C I hst hZ hN hex hlocks hl.1 (by decide) (by decide) (by decide) k_X4_share_132 k_X4_share_ini132 at_X4_share_136 ng_136 gd_136_132 dX4_share_24 dX4_share_27 dX4_share_28 dX4_share_30 dX4_share_33 (Nat.le_of_ble_eq_true rfl) (Nat.le_of_ble_eq_true rfl) (Nat.le_of_ble_eq_true rfl) (Nat.le_of_ble_eq_true rfl) (Nat.le_of_ble_eq_true rfl) (Nat.le_of_ble_eq_true rfl) hf
abbrev rm_X4_mean : Room := { frames := 6, cells := 1, slots := 6, locals := 82 }
abbrev WW_X4_mean (p : Program) (l : Launch) (e : Env) (s : State) (m : MethodId) (args : Array Value) (below : List Frame) (meth : Method) (c : Code) (E : En) (o : Int64) (res : Ex × St) (H : Heap) (locs : List Loc) (cells slots : Nat) (g : JFrame) : Prop := W p l e (headSpec wsX4_mean rm_X4_mean).room s m args below meth c H locs cells slots (vx_MQ below (Qxi E s.heap.size o res) (XX E s.heap.size o res) args s 1 6 (AA E s.heap.size)) g
theorem k_X4_mean_154 : Cond.constantLong RX4 154 (1000 : Int64) ∈ wsX4_mean := by decide +kernel
theorem k_X4_mean_26 : Cond.fieldLink RX4 26 "DaySimulate" "play" "LDaySimulate$Play;" ∈ wsX4_mean := by decide +kernel
theorem k_X4_mean_132 : Cond.classLink RX4 132 "java/lang/ArithmeticException" ∈ wsX4_mean := by decide +kernel
theorem k_X4_mean_ini132 : Cond.initialized "java/lang/ArithmeticException" ∈ wsX4_mean := by decide +kernel
theorem in_X4_mean_X4 : ∀ w ∈ wsX40, w ∈ wsX4_mean := by decide +kernel
theorem at_X4_mean_136 : ∀ w ∈ (vx_atS RX4 136 "java/lang/ArithmeticException" RTN).filter goodWord, w ∈ wsX4_mean := by decide +kernel
set_option maxHeartbeats 4000000 in
set_option maxRecDepth 100000 in
theorem c_X4_mean (l : Launch) (hst : l.stackTraces = false) (E : En) (o : Int64)  (σ : St) {res : Ex × St} (hf : f_X4_mean σ = some res) : CXI l yX4_mean wsX4_mean rm_X4_mean E [.ref (ad E 0)] o σ 1 6 res := by
  intro sz
  refine vx_ofW (cc := cX4_mean) (maxL := 2) (ret := (some .int)) (by decide) rfl ?_
  intro p e s m args below meth c s₁ B hml hex hv
  obtain ⟨rfl, hv, hZ, hN⟩ := hv
  obtain ⟨rfl, hK, I⟩ := hv.start
  have C : Cx p c cX4_mean 2 s m _ wsX4_mean RX4 E := ⟨⟨B.exec, B.bytes, hml, findClass_of_methodNamed B.named, atoms_spec (ws := wsX4_mean) B.pre⟩, hK⟩
  have hx := C.1.1
  have hb := C.1.2.1
  have hr := B.returns
  have hlocks := B.notSynchronized
  clear hv
  have hl := lv_entry ([.ref (ad E 0)]) (n := 2) (Nat.le_of_ble_eq_true rfl)
  rw [lg_entry_eq]
  generalize (lg_sl ([.ref (ad E 0)]) ++ List.replicate (2 - (lg_sl ([.ref (ad E 0)])).length) Slot.unset).toArray = ls at hl ⊢
  have hl : lv_has ls 2 [(0, .ref (ad E 0))] := hl
  generalize ([.ref (ad E 0)] : List Value).toArray = args at C ⊢
  refine g_begin I (fun H locs I => ?_)
  rw [f_X4_mean] at hf
  refine lv_aload_n hx hb dX4_mean_0 rfl (lv_at hl 0 rfl) ?_
  refine g_get (k := 0) (v := .ref (ad E 13)) C I (by decide) (gk_0 E o _) rfl in_X4_mean_X4 2 (by decide) (C.1.2.2.2.2 _ k_X4_mean_26) rfl dX4_mean_1 ?_
  obtain ⟨r_1, σ_2, hg_3, hf⟩ := bd_some hf
  refine g_cvi (av := []) (rest := []) (k := 13) C I AA.new (c_X2_countServed l E o σ hg_3) (cwV 0 C.1.2.2.2.2 gX4_mean_X2_countServed rfl rfl rfl (by decide +kernel) ⟨Nat.le_of_ble_eq_true rfl, Nat.le_of_ble_eq_true rfl⟩) (by decide) (gk_13 E o _) rfl rfl rfl hl.1 rfl (Nat.le_of_ble_eq_true rfl) ⟨Nat.le_of_ble_eq_true rfl, Nat.le_of_ble_eq_true rfl⟩ dX4_mean_4 (fun H locs I => ?_)
  refine lv_istore_n (lv' := [(1, .int r_1), (0, .ref (ad E 0))]) hx hb dX4_mean_7 rfl hl (by decide) rfl (fun ls hl => ?_)
  refine lv_iload_n hx hb dX4_mean_8 rfl (lv_at hl 0 rfl) ?_
  refine lv_if_ne (tgt := 22) hx hb dX4_mean_9 (by decide) (fun c_4 => ?_) (fun c_4 => ?_)
  · have hf := if_f hf c_4
    refine lv_aload_n hx hb dX4_mean_22 rfl (lv_at hl 1 rfl) ?_
    refine g_get (k := 0) (v := .ref (ad E 13)) C I (by decide) (gk_0 E o _) rfl in_X4_mean_X4 2 (by decide) (C.1.2.2.2.2 _ k_X4_mean_26) rfl dX4_mean_23 ?_
    obtain ⟨r_5, σ_6, hg_7, hf⟩ := bd_some hf
    refine g_cvl (av := []) (rest := []) (k := 13) C I AA.new (c_X2_sumOfDelays l E o σ_2 hg_7) (cwV 0 C.1.2.2.2.2 gX4_mean_X2_sumOfDelays rfl rfl rfl (by decide +kernel) ⟨Nat.le_of_ble_eq_true rfl, Nat.le_of_ble_eq_true rfl⟩) (by decide) (gk_13 E o _) rfl rfl rfl hl.1 rfl (Nat.le_of_ble_eq_true rfl) ⟨Nat.le_of_ble_eq_true rfl, Nat.le_of_ble_eq_true rfl⟩ dX4_mean_26 (fun H locs I => ?_)
    refine lv_ldc2 (v := (1000 : Int64)) hx hb C.1.2.2.2.1 (C.1.2.2.2.2 _ k_X4_mean_154) dX4_mean_29 ?_
    refine lv_lmul hx hb dX4_mean_32 ?_
    refine lv_iload_n hx hb dX4_mean_33 rfl (lv_at hl 0 rfl) ?_
    refine lv_i2l hx hb dX4_mean_34 rfl ?_
    obtain ⟨h_8, hf⟩ := ck_some hf
    refine lv_ldiv hx hb dX4_mean_35 (nzl_ne h_8) ?_
    refine lv_l2i hx hb dX4_mean_36 rfl ?_
    exact g_xiret C I hr hlocks (Nat.le_of_ble_eq_true rfl) (Nat.le_of_ble_eq_true rfl) hf dX4_mean_37
  · have hf := if_t hf c_4
    exact g_throw (text := "no call was served") C I hst hZ hN hex hlocks hl.1 (by decide) (by decide) (by decide) k_X4_mean_132 k_X4_mean_ini132 at_X4_mean_136 ng_136 gd_136_132 dX4_mean_12 dX4_mean_15 dX4_mean_16 dX4_mean_18 dX4_mean_21 (Nat.le_of_ble_eq_true rfl) (Nat.le_of_ble_eq_true rfl) (Nat.le_of_ble_eq_true rfl) (Nat.le_of_ble_eq_true rfl) (Nat.le_of_ble_eq_true rfl) (Nat.le_of_ble_eq_true rfl) hf
abbrev rm_X4_work : Room := { frames := 7, cells := 1, slots := 6, locals := 102 }
abbrev WW_X4_work (p : Program) (l : Launch) (e : Env) (s : State) (m : MethodId) (args : Array Value) (below : List Frame) (meth : Method) (c : Code) (E : En) (o : Int64) (res : Ex × St) (H : Heap) (locs : List Loc) (cells slots : Nat) (g : JFrame) : Prop := W p l e (headSpec wsX4_work rm_X4_work).room s m args below meth c H locs cells slots (vx_MQ below (Qxi E s.heap.size o res) (XX E s.heap.size o res) args s 1 6 (AA E s.heap.size)) g
theorem k_X4_work_159 : Cond.fieldLink RX4 159 "DaySimulate$Play" "workOf" "[I" ∈ wsX4_work := by decide +kernel
theorem k_X4_work_26 : Cond.fieldLink RX4 26 "DaySimulate" "play" "LDaySimulate$Play;" ∈ wsX4_work := by decide +kernel
theorem k_X4_work_79 : Cond.fieldLink RX4 79 "DaySimulate$Fleet" "units" "I" ∈ wsX4_work := by decide +kernel
theorem k_X4_work_19 : Cond.fieldLink RX4 19 "DaySimulate" "fleet" "LDaySimulate$Fleet;" ∈ wsX4_work := by decide +kernel
theorem in_X4_work_X1 : ∀ w ∈ wsX10, w ∈ wsX4_work := by decide +kernel
theorem in_X4_work_X2 : ∀ w ∈ wsX20, w ∈ wsX4_work := by decide +kernel
theorem in_X4_work_X4 : ∀ w ∈ wsX40, w ∈ wsX4_work := by decide +kernel
set_option maxHeartbeats 4000000 in
set_option maxRecDepth 100000 in
theorem c_X4_work (l : Launch) (hst : l.stackTraces = false) (E : En) (o : Int64) (a1 : Int32) (σ : St) {res : Ex × St} (hf : f_X4_work a1 σ = some res) : CXI l yX4_work wsX4_work rm_X4_work E [.ref (ad E 0), .int a1] o σ 1 6 res := by
  intro sz
  refine vx_ofW (cc := cX4_work) (maxL := 2) (ret := (some .int)) (by decide) rfl ?_
  intro p e s m args below meth c s₁ B hml hex hv
  obtain ⟨rfl, hv, hZ, hN⟩ := hv
  obtain ⟨rfl, hK, I⟩ := hv.start
  have C : Cx p c cX4_work 2 s m _ wsX4_work RX4 E := ⟨⟨B.exec, B.bytes, hml, findClass_of_methodNamed B.named, atoms_spec (ws := wsX4_work) B.pre⟩, hK⟩
  have hx := C.1.1
  have hb := C.1.2.1
  have hr := B.returns
  have hlocks := B.notSynchronized
  clear hv
  have hl := lv_entry ([.ref (ad E 0), .int a1]) (n := 2) (Nat.le_of_ble_eq_true rfl)
  rw [lg_entry_eq]
  generalize (lg_sl ([.ref (ad E 0), .int a1]) ++ List.replicate (2 - (lg_sl ([.ref (ad E 0), .int a1])).length) Slot.unset).toArray = ls at hl ⊢
  have hl : lv_has ls 2 [(0, .ref (ad E 0)), (1, .int a1)] := hl
  generalize ([.ref (ad E 0), .int a1] : List Value).toArray = args at C ⊢
  refine g_begin I (fun H locs I => ?_)
  rw [f_X4_work] at hf
  refine lv_iload_n hx hb dX4_work_0 rfl (lv_at hl 1 rfl) ?_
  refine lv_aload_n hx hb dX4_work_1 rfl (lv_at hl 0 rfl) ?_
  refine g_get (k := 0) (v := .ref (ad E 7)) C I (by decide) (gk_0 E o _) rfl in_X4_work_X4 1 (by decide) (C.1.2.2.2.2 _ k_X4_work_19) rfl dX4_work_2 ?_
  refine g_get (k := 7) (v := .int (σ 7 1)) C I (by decide) (gk_7 E o _) rfl in_X4_work_X1 1 (by decide) (C.1.2.2.2.2 _ k_X4_work_79) rfl dX4_work_5 ?_
  obtain ⟨r_1, σ_2, hg_3, hf⟩ := bd_some hf
  refine g_csi (av := [.int a1, .int (σ 7 1)]) (rest := []) C I AA.new (c_X4_isBelow l E o a1 ((σ 7 1)) σ hg_3) (cwS 2 C.1.2.2.2.2 gX4_work_X4_isBelow rfl rfl rfl (by decide +kernel) ⟨Nat.le_of_ble_eq_true rfl, Nat.le_of_ble_eq_true rfl⟩) rfl hl.1 rfl (Nat.le_of_ble_eq_true rfl) ⟨Nat.le_of_ble_eq_true rfl, Nat.le_of_ble_eq_true rfl⟩ dX4_work_8 (fun H locs I => ?_)
  obtain ⟨rc_10, hg_6, hn_7, ht_8⟩ := bx_some hf
  refine g_xsv (av := [.int r_1]) (rest := []) C I hZ hN hex hlocks (c_X4_needKnown l hst E o r_1 σ_2 hg_6) (cwS 1 C.1.2.2.2.2 gX4_work_X4_needKnown rfl rfl rfl (by decide +kernel) ⟨Nat.le_of_ble_eq_true rfl, Nat.le_of_ble_eq_true rfl⟩) rfl hl.1 rfl (Nat.le_of_ble_eq_true rfl) ⟨Nat.le_of_ble_eq_true rfl, Nat.le_of_ble_eq_true rfl⟩ (Nat.le_of_ble_eq_true rfl) (Nat.le_of_ble_eq_true rfl) ht_8 dX4_work_11 (fun r_4 σ_5 H locs er_9 I => ?_)
  have hf := hn_7 r_4 σ_5 er_9
  refine lv_aload_n hx hb dX4_work_14 rfl (lv_at hl 0 rfl) ?_
  refine g_get (k := 0) (v := .ref (ad E 13)) C I (by decide) (gk_0 E o _) rfl in_X4_work_X4 2 (by decide) (C.1.2.2.2.2 _ k_X4_work_26) rfl dX4_work_15 ?_
  refine g_get (k := 13) (v := .ref (ad E 17)) C I (by decide) (gk_13 E o _) rfl in_X4_work_X2 4 (by decide) (C.1.2.2.2.2 _ k_X4_work_159) rfl dX4_work_18 ?_
  refine lv_iload_n hx hb dX4_work_21 rfl (lv_at hl 1 rfl) ?_
  obtain ⟨h_11, hf⟩ := ck_some hf
  refine g_iald (k := 17) C I (by decide) (gk_17 E o) (ixb_in h_11) dX4_work_22 ?_
  exact g_xiret C I hr hlocks (Nat.le_of_ble_eq_true rfl) (Nat.le_of_ble_eq_true rfl) hf dX4_work_23
abbrev rm_X4_arrived : Room := { frames := 7, cells := 1, slots := 6, locals := 102 }
abbrev WW_X4_arrived (p : Program) (l : Launch) (e : Env) (s : State) (m : MethodId) (args : Array Value) (below : List Frame) (meth : Method) (c : Code) (E : En) (o : Int64) (res : Ex × St) (H : Heap) (locs : List Loc) (cells slots : Nat) (g : JFrame) : Prop := W p l e (headSpec wsX4_arrived rm_X4_arrived).room s m args below meth c H locs cells slots (vx_MQ below (Qxi E s.heap.size o res) (XX E s.heap.size o res) args s 1 6 (AA E s.heap.size)) g
theorem k_X4_arrived_26 : Cond.fieldLink RX4 26 "DaySimulate" "play" "LDaySimulate$Play;" ∈ wsX4_arrived := by decide +kernel
theorem in_X4_arrived_X4 : ∀ w ∈ wsX40, w ∈ wsX4_arrived := by decide +kernel
set_option maxHeartbeats 4000000 in
set_option maxRecDepth 100000 in
theorem c_X4_arrived (l : Launch) (hst : l.stackTraces = false) (E : En) (o : Int64) (a1 : Int32) (σ : St) {res : Ex × St} (hf : f_X4_arrived a1 σ = some res) : CXI l yX4_arrived wsX4_arrived rm_X4_arrived E [.ref (ad E 0), .int a1] o σ 1 6 res := by
  intro sz
  refine vx_ofW (cc := cX4_arrived) (maxL := 2) (ret := (some .int)) (by decide) rfl ?_
  intro p e s m args below meth c s₁ B hml hex hv
  obtain ⟨rfl, hv, hZ, hN⟩ := hv
  obtain ⟨rfl, hK, I⟩ := hv.start
  have C : Cx p c cX4_arrived 2 s m _ wsX4_arrived RX4 E := ⟨⟨B.exec, B.bytes, hml, findClass_of_methodNamed B.named, atoms_spec (ws := wsX4_arrived) B.pre⟩, hK⟩
  have hx := C.1.1
  have hb := C.1.2.1
  have hr := B.returns
  have hlocks := B.notSynchronized
  clear hv
  have hl := lv_entry ([.ref (ad E 0), .int a1]) (n := 2) (Nat.le_of_ble_eq_true rfl)
  rw [lg_entry_eq]
  generalize (lg_sl ([.ref (ad E 0), .int a1]) ++ List.replicate (2 - (lg_sl ([.ref (ad E 0), .int a1])).length) Slot.unset).toArray = ls at hl ⊢
  have hl : lv_has ls 2 [(0, .ref (ad E 0)), (1, .int a1)] := hl
  generalize ([.ref (ad E 0), .int a1] : List Value).toArray = args at C ⊢
  refine g_begin I (fun H locs I => ?_)
  rw [f_X4_arrived] at hf
  refine lv_iload_n hx hb dX4_arrived_0 rfl (lv_at hl 1 rfl) ?_
  refine lv_iconst (v := (0 : Int32)) hx hb dX4_arrived_1 (by decide) ?_
  refine lv_sipush (v := (9999 : Int32)) hx hb dX4_arrived_2 (by decide) ?_
  obtain ⟨r_1, σ_2, hg_3, hf⟩ := bd_some hf
  refine g_csi (av := [.int a1, .int (0 : Int32), .int (9999 : Int32)]) (rest := []) C I AA.new (c_X4_isWithin l E o a1 (0 : Int32) (9999 : Int32) σ hg_3) (cwS 3 C.1.2.2.2.2 gX4_arrived_X4_isWithin rfl rfl rfl (by decide +kernel) ⟨Nat.le_of_ble_eq_true rfl, Nat.le_of_ble_eq_true rfl⟩) rfl hl.1 rfl (Nat.le_of_ble_eq_true rfl) ⟨Nat.le_of_ble_eq_true rfl, Nat.le_of_ble_eq_true rfl⟩ dX4_arrived_5 (fun H locs I => ?_)
  obtain ⟨rc_10, hg_6, hn_7, ht_8⟩ := bx_some hf
  refine g_xsv (av := [.int r_1]) (rest := []) C I hZ hN hex hlocks (c_X4_needRange l hst E o r_1 σ_2 hg_6) (cwS 1 C.1.2.2.2.2 gX4_arrived_X4_needRange rfl rfl rfl (by decide +kernel) ⟨Nat.le_of_ble_eq_true rfl, Nat.le_of_ble_eq_true rfl⟩) rfl hl.1 rfl (Nat.le_of_ble_eq_true rfl) ⟨Nat.le_of_ble_eq_true rfl, Nat.le_of_ble_eq_true rfl⟩ (Nat.le_of_ble_eq_true rfl) (Nat.le_of_ble_eq_true rfl) ht_8 dX4_arrived_8 (fun r_4 σ_5 H locs er_9 I => ?_)
  have hf := hn_7 r_4 σ_5 er_9
  refine lv_aload_n hx hb dX4_arrived_11 rfl (lv_at hl 0 rfl) ?_
  refine g_get (k := 0) (v := .ref (ad E 13)) C I (by decide) (gk_0 E o _) rfl in_X4_arrived_X4 2 (by decide) (C.1.2.2.2.2 _ k_X4_arrived_26) rfl dX4_arrived_12 ?_
  refine lv_iload_n hx hb dX4_arrived_15 rfl (lv_at hl 1 rfl) ?_
  obtain ⟨r_11, σ_12, hg_13, hf⟩ := bd_some hf
  refine g_cvi (av := [.int a1]) (rest := []) (k := 13) C I AA.new (c_X2_countArrivedBy l E o a1 σ_5 hg_13) (cwV 1 C.1.2.2.2.2 gX4_arrived_X2_countArrivedBy rfl rfl rfl (by decide +kernel) ⟨Nat.le_of_ble_eq_true rfl, Nat.le_of_ble_eq_true rfl⟩) (by decide) (gk_13 E o _) rfl rfl rfl hl.1 rfl (Nat.le_of_ble_eq_true rfl) ⟨Nat.le_of_ble_eq_true rfl, Nat.le_of_ble_eq_true rfl⟩ dX4_arrived_16 (fun H locs I => ?_)
  exact g_xiret C I hr hlocks (Nat.le_of_ble_eq_true rfl) (Nat.le_of_ble_eq_true rfl) hf dX4_arrived_19
abbrev rm_X4_unlucky : Room := { frames := 7, cells := 3, slots := 18, locals := 118 }
abbrev WW_X4_unlucky (p : Program) (l : Launch) (e : Env) (s : State) (m : MethodId) (args : Array Value) (below : List Frame) (meth : Method) (c : Code) (E : En) (o : Int64) (res : Ex × St) (H : Heap) (locs : List Loc) (cells slots : Nat) (g : JFrame) : Prop := W p l e (headSpec wsX4_unlucky rm_X4_unlucky).room s m args below meth c H locs cells slots (vx_MQ below (Qxi E s.heap.size o res) (XX E s.heap.size o res) args s 3 18 (AA E s.heap.size)) g
theorem k_X4_unlucky_59 : Cond.fieldLink RX4 59 "DaySimulate$Town" "areas" "I" ∈ wsX4_unlucky := by decide +kernel
theorem k_X4_unlucky_12 : Cond.fieldLink RX4 12 "DaySimulate" "town" "LDaySimulate$Town;" ∈ wsX4_unlucky := by decide +kernel
theorem k_X4_unlucky_26 : Cond.fieldLink RX4 26 "DaySimulate" "play" "LDaySimulate$Play;" ∈ wsX4_unlucky := by decide +kernel
theorem in_X4_unlucky_X3 : ∀ w ∈ wsX30, w ∈ wsX4_unlucky := by decide +kernel
theorem in_X4_unlucky_X4 : ∀ w ∈ wsX40, w ∈ wsX4_unlucky := by decide +kernel
set_option maxHeartbeats 4000000 in
set_option maxRecDepth 100000 in
theorem lp_X4_unlucky_80 {l : Launch} {p : Program} {e : Env} {s : State} {m : MethodId} {args : Array Value} {below : List Frame} {meth : Method} {c : Code} {E : En} {o : Int64} {res : Ex × St} (C : Cx p c cX4_unlucky 10 s m args wsX4_unlucky RX4 E) (hr : meth.sig.returnType = (some .int)) (hlocks : meth.locks = false) (b1 : Int32) (b2 : Int32) (b3 : Int32) (b4 : Int32) (b5 : Int32) (K124 : Int32 → St → Option (Ex × St)) (hK124 : ∀ (u7 : Int32) (σ : St) (H : Heap) (locs : List Loc) (ls : Array Slot), K124 u7 σ = some res → Iv E (AA E s.heap.size) s.heap o σ H locs → lv_has ls 10 [(0, .ref (ad E 0)), (7, .int u7)] → WW_X4_unlucky p l e s m args below meth c E o res H locs 3 18 (F0 m 124 ls [])) :
    ∀ (n : Nat) (v6 : Int32) (v7 : Int32) (v8 : Int32) (σ : St) (H : Heap) (locs : List Loc) (ls : Array Slot), f_X4_unlucky_L80 b1 b2 b3 b4 b5 K124 n v6 v7 v8 σ = some res → Iv E (AA E s.heap.size) s.heap o σ H locs → lv_has ls 10 [(0, .ref (ad E 0)), (1, .int b1), (2, .int b2), (3, .int b3), (4, .int b4), (5, .int b5), (6, .int v6), (7, .int v7), (8, .int v8)] → WW_X4_unlucky p l e s m args below meth c E o res H locs 3 18 (F0 m 80 ls []) := by
  have hx := C.1.1
  have hb := C.1.2.1
  intro n
  induction n with
  | zero => intro v6 v7 v8 σ H locs ls hf _ _; cases (show (none : Option (Ex × St)) = some res from hf)
  | succ n ih =>
    intro v6 v7 v8 σ H locs ls hf I hl
    rw [f_X4_unlucky_L80] at hf
    refine lv_iload hx hb dX4_unlucky_80 (lv_at hl 8 rfl) ?_
    refine lv_iload_n hx hb dX4_unlucky_82 rfl (lv_at hl 3 rfl) ?_
    refine lv_icmp_ge (tgt := 124) hx hb dX4_unlucky_83 (by decide) (fun c_45 => ?_) (fun c_45 => ?_)
    · have hf := if_t hf c_45
      exact hK124 v7 σ H locs ls hf I (lv_sub hl [0, 7] rfl)
    · have hf := if_f hf c_45
      refine lv_aload_n hx hb dX4_unlucky_86 rfl (lv_at hl 0 rfl) ?_
      refine lv_iload_n hx hb dX4_unlucky_87 rfl (lv_at hl 1 rfl) ?_
      refine lv_iload_n hx hb dX4_unlucky_88 rfl (lv_at hl 2 rfl) ?_
      refine lv_iload hx hb dX4_unlucky_89 (lv_at hl 8 rfl) ?_
      refine lv_iadd hx hb dX4_unlucky_91 ?_
      refine lv_iload hx hb dX4_unlucky_92 (lv_at hl 4 rfl) ?_
      refine lv_iload hx hb dX4_unlucky_94 (lv_at hl 5 rfl) ?_
      obtain ⟨r_46, σ_47, hg_48, hf⟩ := bd_some hf
      refine g_cvi (av := [.int b1, .int (b2 + v8), .int b4, .int b5]) (rest := []) (k := 0) C I AA.new (c_X4_lateOn l E o b1 ((b2 + v8)) b4 b5 σ hg_48) (cwV 4 C.1.2.2.2.2 gX4_unlucky_X4_lateOn rfl rfl rfl (by decide +kernel) ⟨Nat.le_of_ble_eq_true rfl, Nat.le_of_ble_eq_true rfl⟩) (by decide) (gk_0 E o _) rfl rfl rfl hl.1 rfl (Nat.le_of_ble_eq_true rfl) ⟨Nat.le_of_ble_eq_true rfl, Nat.le_of_ble_eq_true rfl⟩ dX4_unlucky_96 (fun H locs I => ?_)
      refine lv_istore (lv' := [(9, .int r_46), (0, .ref (ad E 0)), (1, .int b1), (2, .int b2), (3, .int b3), (4, .int b4), (5, .int b5), (6, .int v6), (7, .int v7), (8, .int v8)]) hx hb dX4_unlucky_99 hl (by decide) rfl (fun ls hl => ?_)
      refine lv_iload hx hb dX4_unlucky_101 (lv_at hl 0 rfl) ?_
      refine lv_iload hx hb dX4_unlucky_103 (lv_at hl 7 rfl) ?_
      refine lv_icmp_le (tgt := 118) hx hb dX4_unlucky_105 (by decide) (fun c_49 => ?_) (fun c_49 => ?_)
      · have hf := if_t hf c_49
        obtain ⟨x_50, ex_50⟩ : ∃ y : Int32, y = (v8 + (1 : Int32)) := ⟨_, rfl⟩
        have hf := lt_at hf ex_50
        refine lv_iinc (v := x_50) (lv' := [(8, .int x_50), (9, .int r_46), (0, .ref (ad E 0)), (1, .int b1), (2, .int b2), (3, .int b3), (4, .int b4), (5, .int b5), (6, .int v6), (7, .int v7)]) hx hb dX4_unlucky_118 hl (k := 9) rfl (by rw [ex_50]; rfl) (by decide) rfl (fun ls hl => ?_)
        refine lv_goto (tgt := 80) hx hb dX4_unlucky_121 (by decide) ?_
        exact ih v6 v7 x_50 σ_47 H locs ls hf I (lv_sub hl [2, 3, 4, 5, 6, 7, 8, 9, 0] rfl)
      · have hf := if_f hf c_49
        refine lv_iload hx hb dX4_unlucky_108 (lv_at hl 0 rfl) ?_
        refine lv_istore (lv' := [(6, .int r_46), (9, .int r_46), (0, .ref (ad E 0)), (1, .int b1), (2, .int b2), (3, .int b3), (4, .int b4), (5, .int b5), (7, .int v7), (8, .int v8)]) hx hb dX4_unlucky_110 hl (by decide) rfl (fun ls hl => ?_)
        refine lv_iload_n hx hb dX4_unlucky_112 rfl (lv_at hl 4 rfl) ?_
        refine lv_iload hx hb dX4_unlucky_113 (lv_at hl 9 rfl) ?_
        refine lv_iadd hx hb dX4_unlucky_115 ?_
        refine lv_topi (fun x_51 ex_51 => ?_)
        have hf := lt_at hf ex_51
        refine lv_istore (lv' := [(7, .int x_51), (6, .int r_46), (9, .int r_46), (0, .ref (ad E 0)), (1, .int b1), (2, .int b2), (3, .int b3), (4, .int b4), (5, .int b5), (8, .int v8)]) hx hb dX4_unlucky_116 hl (by decide) rfl (fun ls hl => ?_)
        obtain ⟨x_52, ex_52⟩ : ∃ y : Int32, y = (v8 + (1 : Int32)) := ⟨_, rfl⟩
        have hf := lt_at hf ex_52
        refine lv_iinc (v := x_52) (lv' := [(8, .int x_52), (7, .int x_51), (6, .int r_46), (9, .int r_46), (0, .ref (ad E 0)), (1, .int b1), (2, .int b2), (3, .int b3), (4, .int b4), (5, .int b5)]) hx hb dX4_unlucky_118 hl (k := 9) rfl (by rw [ex_52]; rfl) (by decide) rfl (fun ls hl => ?_)
        refine lv_goto (tgt := 80) hx hb dX4_unlucky_121 (by decide) ?_
        exact ih r_46 x_51 x_52 σ_47 H locs ls hf I (lv_sub hl [4, 5, 6, 7, 8, 9, 2, 1, 0] rfl)
set_option maxHeartbeats 4000000 in
set_option maxRecDepth 100000 in
theorem c_X4_unlucky (l : Launch) (hst : l.stackTraces = false) (E : En) (o : Int64) (a1 : Int32) (a2 : Int32) (a3 : Int32) (a4 : Int32) (a5 : Int32) (σ : St) {res : Ex × St} (hf : f_X4_unlucky a1 a2 a3 a4 a5 σ = some res) : CXI l yX4_unlucky wsX4_unlucky rm_X4_unlucky E [.ref (ad E 0), .int a1, .int a2, .int a3, .int a4, .int a5] o σ 3 18 res := by
  intro sz
  refine vx_ofW (cc := cX4_unlucky) (maxL := 10) (ret := (some .int)) (by decide) rfl ?_
  intro p e s m args below meth c s₁ B hml hex hv
  obtain ⟨rfl, hv, hZ, hN⟩ := hv
  obtain ⟨rfl, hK, I⟩ := hv.start
  have C : Cx p c cX4_unlucky 10 s m _ wsX4_unlucky RX4 E := ⟨⟨B.exec, B.bytes, hml, findClass_of_methodNamed B.named, atoms_spec (ws := wsX4_unlucky) B.pre⟩, hK⟩
  have hx := C.1.1
  have hb := C.1.2.1
  have hr := B.returns
  have hlocks := B.notSynchronized
  clear hv
  have hl := lv_entry ([.ref (ad E 0), .int a1, .int a2, .int a3, .int a4, .int a5]) (n := 10) (Nat.le_of_ble_eq_true rfl)
  rw [lg_entry_eq]
  generalize (lg_sl ([.ref (ad E 0), .int a1, .int a2, .int a3, .int a4, .int a5]) ++ List.replicate (10 - (lg_sl ([.ref (ad E 0), .int a1, .int a2, .int a3, .int a4, .int a5])).length) Slot.unset).toArray = ls at hl ⊢
  have hl : lv_has ls 10 [(0, .ref (ad E 0)), (1, .int a1), (2, .int a2), (3, .int a3), (4, .int a4), (5, .int a5)] := hl
  generalize ([.ref (ad E 0), .int a1, .int a2, .int a3, .int a4, .int a5] : List Value).toArray = args at C ⊢
  refine g_begin I (fun H locs I => ?_)
  rw [f_X4_unlucky] at hf
  refine lv_iload_n hx hb dX4_unlucky_0 rfl (lv_at hl 1 rfl) ?_
  refine lv_iconst (v := (4 : Int32)) hx hb dX4_unlucky_1 (by decide) ?_
  obtain ⟨r_1, σ_2, hg_3, hf⟩ := bd_some hf
  refine g_csi (av := [.int a1, .int (4 : Int32)]) (rest := []) C I AA.new (c_X4_isBelow l E o a1 (4 : Int32) σ hg_3) (cwS 2 C.1.2.2.2.2 gX4_unlucky_X4_isBelow rfl rfl rfl (by decide +kernel) ⟨Nat.le_of_ble_eq_true rfl, Nat.le_of_ble_eq_true rfl⟩) rfl hl.1 rfl (Nat.le_of_ble_eq_true rfl) ⟨Nat.le_of_ble_eq_true rfl, Nat.le_of_ble_eq_true rfl⟩ dX4_unlucky_2 (fun H locs I => ?_)
  obtain ⟨rc_10, hg_6, hn_7, ht_8⟩ := bx_some hf
  refine g_xsv (av := [.int r_1]) (rest := []) C I hZ hN hex hlocks (c_X4_needKnown l hst E o r_1 σ_2 hg_6) (cwS 1 C.1.2.2.2.2 gX4_unlucky_X4_needKnown rfl rfl rfl (by decide +kernel) ⟨Nat.le_of_ble_eq_true rfl, Nat.le_of_ble_eq_true rfl⟩) rfl hl.1 rfl (Nat.le_of_ble_eq_true rfl) ⟨Nat.le_of_ble_eq_true rfl, Nat.le_of_ble_eq_true rfl⟩ (Nat.le_of_ble_eq_true rfl) (Nat.le_of_ble_eq_true rfl) ht_8 dX4_unlucky_5 (fun r_4 σ_5 H locs er_9 I => ?_)
  have hf := hn_7 r_4 σ_5 er_9
  refine lv_iload_n hx hb dX4_unlucky_8 rfl (lv_at hl 3 rfl) ?_
  refine lv_iconst (v := (1 : Int32)) hx hb dX4_unlucky_9 (by decide) ?_
  refine lv_bipush (v := (8 : Int32)) hx hb dX4_unlucky_10 (by decide) ?_
  obtain ⟨r_11, σ_12, hg_13, hf⟩ := bd_some hf
  refine g_csi (av := [.int a3, .int (1 : Int32), .int (8 : Int32)]) (rest := []) C I AA.new (c_X4_isWithin l E o a3 (1 : Int32) (8 : Int32) σ_5 hg_13) (cwS 3 C.1.2.2.2.2 gX4_unlucky_X4_isWithin rfl rfl rfl (by decide +kernel) ⟨Nat.le_of_ble_eq_true rfl, Nat.le_of_ble_eq_true rfl⟩) rfl hl.1 rfl (Nat.le_of_ble_eq_true rfl) ⟨Nat.le_of_ble_eq_true rfl, Nat.le_of_ble_eq_true rfl⟩ dX4_unlucky_12 (fun H locs I => ?_)
  obtain ⟨J_15, eJ_15, hf⟩ := lt_split hf
  have hJ_15 : ∀ (y_24 : Int32) (σ_25 : St) (H : Heap) (locs : List Loc) (ls : Array Slot), J_15 y_24 σ_25 = some res → Iv E (AA E s.heap.size) s.heap o σ_25 H locs → lv_has ls 10 [(0, .ref (ad E 0)), (1, .int a1), (2, .int a2), (3, .int a3), (4, .int a4), (5, .int a5)] → WW_X4_unlucky p l e s m args below meth c E o res H locs 1 6 (F0 m 45 ls [.int y_24]) := by
    intro y_24 σ_25 H locs ls hf I hl
    rw [eJ_15] at hf
    obtain ⟨rc_32, hg_28, hn_29, ht_30⟩ := bx_some hf
    refine g_xsv (av := [.int y_24]) (rest := []) C I hZ hN hex hlocks (c_X4_needRange l hst E o y_24 σ_25 hg_28) (cwS 1 C.1.2.2.2.2 gX4_unlucky_X4_needRange rfl rfl rfl (by decide +kernel) ⟨Nat.le_of_ble_eq_true rfl, Nat.le_of_ble_eq_true rfl⟩) rfl hl.1 rfl (Nat.le_of_ble_eq_true rfl) ⟨Nat.le_of_ble_eq_true rfl, Nat.le_of_ble_eq_true rfl⟩ (Nat.le_of_ble_eq_true rfl) (Nat.le_of_ble_eq_true rfl) ht_30 dX4_unlucky_45 (fun r_26 σ_27 H locs er_31 I => ?_)
    have hf := hn_29 r_26 σ_27 er_31
    refine lv_iload hx hb dX4_unlucky_48 (lv_at hl 5 rfl) ?_
    obtain ⟨J_34, eJ_34, hf⟩ := lt_split hf
    have hJ_34 : ∀ (y_36 : Int32) (σ_37 : St) (H : Heap) (locs : List Loc) (ls : Array Slot), J_34 y_36 σ_37 = some res → Iv E (AA E s.heap.size) s.heap o σ_37 H locs → lv_has ls 10 [(0, .ref (ad E 0)), (1, .int a1), (2, .int a2), (3, .int a3), (4, .int a4), (5, .int a5)] → WW_X4_unlucky p l e s m args below meth c E o res H locs 2 12 (F0 m 68 ls [.int y_36]) := by
      intro y_36 σ_37 H locs ls hf I hl
      rw [eJ_34] at hf
      obtain ⟨rc_44, hg_40, hn_41, ht_42⟩ := bx_some hf
      refine g_xsv (av := [.int y_36]) (rest := []) C I hZ hN hex hlocks (c_X4_needState l hst E o y_36 σ_37 hg_40) (cwS 1 C.1.2.2.2.2 gX4_unlucky_X4_needState rfl rfl rfl (by decide +kernel) ⟨Nat.le_of_ble_eq_true rfl, Nat.le_of_ble_eq_true rfl⟩) rfl hl.1 rfl (Nat.le_of_ble_eq_true rfl) ⟨Nat.le_of_ble_eq_true rfl, Nat.le_of_ble_eq_true rfl⟩ (Nat.le_of_ble_eq_true rfl) (Nat.le_of_ble_eq_true rfl) ht_42 dX4_unlucky_68 (fun r_38 σ_39 H locs er_43 I => ?_)
      have hf := hn_41 r_38 σ_39 er_43
      refine lv_iconst (v := (-1 : Int32)) hx hb dX4_unlucky_71 (by decide) ?_
      refine lv_istore (lv' := [(6, .int (-1 : Int32)), (0, .ref (ad E 0)), (1, .int a1), (2, .int a2), (3, .int a3), (4, .int a4), (5, .int a5)]) hx hb dX4_unlucky_72 hl (by decide) rfl (fun ls hl => ?_)
      refine lv_iload_n hx hb dX4_unlucky_74 rfl (lv_at hl 3 rfl) ?_
      refine lv_istore (lv' := [(7, .int a2), (6, .int (-1 : Int32)), (0, .ref (ad E 0)), (1, .int a1), (2, .int a2), (3, .int a3), (4, .int a4), (5, .int a5)]) hx hb dX4_unlucky_75 hl (by decide) rfl (fun ls hl => ?_)
      refine lv_iconst (v := (0 : Int32)) hx hb dX4_unlucky_77 (by decide) ?_
      refine lv_istore (lv' := [(8, .int (0 : Int32)), (7, .int a2), (6, .int (-1 : Int32)), (0, .ref (ad E 0)), (1, .int a1), (2, .int a2), (3, .int a3), (4, .int a4), (5, .int a5)]) hx hb dX4_unlucky_78 hl (by decide) rfl (fun ls hl => ?_)
      refine lp_X4_unlucky_80 C hr hlocks a1 a2 a3 a4 a5 _ ?_ _ (-1 : Int32) a2 (0 : Int32) σ_39 H locs ls hf I (lv_sub hl [3, 4, 5, 6, 7, 8, 2, 1, 0] rfl)
      · intro y_53 σ_54 H locs ls hf I hl
        refine lv_aload_n hx hb dX4_unlucky_124 rfl (lv_at hl 0 rfl) ?_
        refine g_get (k := 0) (v := .ref (ad E 13)) C I (by decide) (gk_0 E o _) rfl in_X4_unlucky_X4 2 (by decide) (C.1.2.2.2.2 _ k_X4_unlucky_26) rfl dX4_unlucky_125 ?_
        obtain ⟨r_55, σ_56, hg_57, hf⟩ := bd_some hf
        refine g_cvv (av := []) (rest := []) (k := 13) C I AA.new (c_X2_forget l E o σ_54 hg_57) (cwV 0 C.1.2.2.2.2 gX4_unlucky_X2_forget rfl rfl rfl (by decide +kernel) ⟨Nat.le_of_ble_eq_true rfl, Nat.le_of_ble_eq_true rfl⟩) (by decide) (gk_13 E o _) rfl rfl rfl hl.1 rfl (Nat.le_of_ble_eq_true rfl) ⟨Nat.le_of_ble_eq_true rfl, Nat.le_of_ble_eq_true rfl⟩ dX4_unlucky_128 (fun H locs I => ?_)
        refine lv_iload hx hb dX4_unlucky_131 (lv_at hl 1 rfl) ?_
        exact g_xiret C I hr hlocks (Nat.le_of_ble_eq_true rfl) (Nat.le_of_ble_eq_true rfl) hf dX4_unlucky_133
    refine lv_if_eq (tgt := 63) hx hb dX4_unlucky_50 (by decide) (fun c_33 => ?_) (fun c_33 => ?_)
    · have hf := if_t hf c_33
      refine lv_iconst (v := (1 : Int32)) hx hb dX4_unlucky_63 (by decide) ?_
      refine lv_goto (tgt := 68) hx hb dX4_unlucky_64 (by decide) ?_
      exact hJ_34 _ σ_27 H locs ls hf I (lv_sub hl [0, 1, 2, 3, 4, 5] rfl)
    · have hf := if_f hf c_33
      refine lv_aload_n hx hb dX4_unlucky_53 rfl (lv_at hl 0 rfl) ?_
      refine g_get (k := 0) (v := .ref (ad E 1)) C I (by decide) (gk_0 E o _) rfl in_X4_unlucky_X4 0 (by decide) (C.1.2.2.2.2 _ k_X4_unlucky_12) rfl dX4_unlucky_54 ?_
      refine g_get (k := 1) (v := .int (σ_27 1 6)) C I (by decide) (gk_1 E o _) rfl in_X4_unlucky_X3 6 (by decide) (C.1.2.2.2.2 _ k_X4_unlucky_59) rfl dX4_unlucky_57 ?_
      refine lv_if_le (tgt := 67) hx hb dX4_unlucky_60 (by decide) (fun c_35 => ?_) (fun c_35 => ?_)
      · have hf := if_t hf c_35
        refine lv_iconst (v := (0 : Int32)) hx hb dX4_unlucky_67 (by decide) ?_
        exact hJ_34 _ σ_27 H locs ls hf I (lv_sub hl [0, 1, 2, 3, 4, 5] rfl)
      · have hf := if_f hf c_35
        refine lv_iconst (v := (1 : Int32)) hx hb dX4_unlucky_63 (by decide) ?_
        refine lv_goto (tgt := 68) hx hb dX4_unlucky_64 (by decide) ?_
        exact hJ_34 _ σ_27 H locs ls hf I (lv_sub hl [0, 1, 2, 3, 4, 5] rfl)
  refine lv_if_eq (tgt := 44) hx hb dX4_unlucky_15 (by decide) (fun c_14 => ?_) (fun c_14 => ?_)
  · have hf := if_t hf c_14
    refine lv_iconst (v := (0 : Int32)) hx hb dX4_unlucky_44 (by decide) ?_
    exact hJ_15 _ σ_12 H locs ls hf I (lv_sub hl [0, 1, 2, 3, 4, 5] rfl)
  · have hf := if_f hf c_14
    refine lv_iload hx hb dX4_unlucky_18 (lv_at hl 4 rfl) ?_
    refine lv_sipush (v := (1000 : Int32)) hx hb dX4_unlucky_20 (by decide) ?_
    obtain ⟨r_16, σ_17, hg_18, hf⟩ := bd_some hf
    refine g_csi (av := [.int a4, .int (1000 : Int32)]) (rest := []) C I AA.new (c_X4_isBelow l E o a4 (1000 : Int32) σ_12 hg_18) (cwS 2 C.1.2.2.2.2 gX4_unlucky_X4_isBelow rfl rfl rfl (by decide +kernel) ⟨Nat.le_of_ble_eq_true rfl, Nat.le_of_ble_eq_true rfl⟩) rfl hl.1 rfl (Nat.le_of_ble_eq_true rfl) ⟨Nat.le_of_ble_eq_true rfl, Nat.le_of_ble_eq_true rfl⟩ dX4_unlucky_23 (fun H locs I => ?_)
    refine lv_if_eq (tgt := 44) hx hb dX4_unlucky_26 (by decide) (fun c_19 => ?_) (fun c_19 => ?_)
    · have hf := if_t hf c_19
      refine lv_iconst (v := (0 : Int32)) hx hb dX4_unlucky_44 (by decide) ?_
      exact hJ_15 _ σ_17 H locs ls hf I (lv_sub hl [0, 1, 2, 3, 4, 5] rfl)
    · have hf := if_f hf c_19
      refine lv_iload hx hb dX4_unlucky_29 (lv_at hl 5 rfl) ?_
      refine lv_iconst (v := (0 : Int32)) hx hb dX4_unlucky_31 (by decide) ?_
      refine lv_bipush (v := (60 : Int32)) hx hb dX4_unlucky_32 (by decide) ?_
      obtain ⟨r_20, σ_21, hg_22, hf⟩ := bd_some hf
      refine g_csi (av := [.int a5, .int (0 : Int32), .int (60 : Int32)]) (rest := []) C I AA.new (c_X4_isWithin l E o a5 (0 : Int32) (60 : Int32) σ_17 hg_22) (cwS 3 C.1.2.2.2.2 gX4_unlucky_X4_isWithin rfl rfl rfl (by decide +kernel) ⟨Nat.le_of_ble_eq_true rfl, Nat.le_of_ble_eq_true rfl⟩) rfl hl.1 rfl (Nat.le_of_ble_eq_true rfl) ⟨Nat.le_of_ble_eq_true rfl, Nat.le_of_ble_eq_true rfl⟩ dX4_unlucky_34 (fun H locs I => ?_)
      refine lv_if_eq (tgt := 44) hx hb dX4_unlucky_37 (by decide) (fun c_23 => ?_) (fun c_23 => ?_)
      · have hf := if_t hf c_23
        refine lv_iconst (v := (0 : Int32)) hx hb dX4_unlucky_44 (by decide) ?_
        exact hJ_15 _ σ_21 H locs ls hf I (lv_sub hl [0, 1, 2, 3, 4, 5] rfl)
      · have hf := if_f hf c_23
        refine lv_iconst (v := (1 : Int32)) hx hb dX4_unlucky_40 (by decide) ?_
        refine lv_goto (tgt := 45) hx hb dX4_unlucky_41 (by decide) ?_
        exact hJ_15 _ σ_21 H locs ls hf I (lv_sub hl [0, 1, 2, 3, 4, 5] rfl)
abbrev rm_X4_compare : Room := { frames := 7, cells := 3, slots := 18, locals := 118 }
abbrev WW_X4_compare (p : Program) (l : Launch) (e : Env) (s : State) (m : MethodId) (args : Array Value) (below : List Frame) (meth : Method) (c : Code) (E : En) (o : Int64) (res : Ex × St) (H : Heap) (locs : List Loc) (cells slots : Nat) (g : JFrame) : Prop := W p l e (headSpec wsX4_compare rm_X4_compare).room s m args below meth c H locs cells slots (vx_MQ below (Qxi E s.heap.size o res) (XX E s.heap.size o res) args s 3 18 (AA E s.heap.size)) g
theorem k_X4_compare_26 : Cond.fieldLink RX4 26 "DaySimulate" "play" "LDaySimulate$Play;" ∈ wsX4_compare := by decide +kernel
theorem k_X4_compare_59 : Cond.fieldLink RX4 59 "DaySimulate$Town" "areas" "I" ∈ wsX4_compare := by decide +kernel
theorem k_X4_compare_12 : Cond.fieldLink RX4 12 "DaySimulate" "town" "LDaySimulate$Town;" ∈ wsX4_compare := by decide +kernel
theorem in_X4_compare_X3 : ∀ w ∈ wsX30, w ∈ wsX4_compare := by decide +kernel
theorem in_X4_compare_X4 : ∀ w ∈ wsX40, w ∈ wsX4_compare := by decide +kernel
set_option maxHeartbeats 4000000 in
set_option maxRecDepth 100000 in
theorem lp_X4_compare_95 {l : Launch} {p : Program} {e : Env} {s : State} {m : MethodId} {args : Array Value} {below : List Frame} {meth : Method} {c : Code} {E : En} {o : Int64} {res : Ex × St} (C : Cx p c cX4_compare 12 s m args wsX4_compare RX4 E) (hr : meth.sig.returnType = (some .int)) (hlocks : meth.locks = false) (b1 : Int32) (b2 : Int32) (b3 : Int32) (b4 : Int32) (b5 : Int32) (b6 : Int32) (K161 : Int32 → Int32 → St → Option (Ex × St)) (hK161 : ∀ (u7 : Int32) (u8 : Int32) (σ : St) (H : Heap) (locs : List Loc) (ls : Array Slot), K161 u7 u8 σ = some res → Iv E (AA E s.heap.size) s.heap o σ H locs → lv_has ls 12 [(0, .ref (ad E 0)), (6, .int b6), (7, .int u7), (8, .int u8)] → WW_X4_compare p l e s m args below meth c E o res H locs 3 18 (F0 m 161 ls [])) :
    ∀ (n : Nat) (v7 : Int32) (v8 : Int32) (v9 : Int32) (σ : St) (H : Heap) (locs : List Loc) (ls : Array Slot), f_X4_compare_L95 b1 b2 b3 b4 b5 b6 K161 n v7 v8 v9 σ = some res → Iv E (AA E s.heap.size) s.heap o σ H locs → lv_has ls 12 [(0, .ref (ad E 0)), (1, .int b1), (2, .int b2), (3, .int b3), (4, .int b4), (5, .int b5), (6, .int b6), (7, .int v7), (8, .int v8), (9, .int v9)] → WW_X4_compare p l e s m args below meth c E o res H locs 3 18 (F0 m 95 ls []) := by
  have hx := C.1.1
  have hb := C.1.2.1
  intro n
  induction n with
  | zero => intro v7 v8 v9 σ H locs ls hf _ _; cases (show (none : Option (Ex × St)) = some res from hf)
  | succ n ih =>
    intro v7 v8 v9 σ H locs ls hf I hl
    rw [f_X4_compare_L95] at hf
    refine lv_iload hx hb dX4_compare_95 (lv_at hl 9 rfl) ?_
    refine lv_iload hx hb dX4_compare_97 (lv_at hl 5 rfl) ?_
    refine lv_icmp_ge (tgt := 161) hx hb dX4_compare_99 (by decide) (fun c_52 => ?_) (fun c_52 => ?_)
    · have hf := if_t hf c_52
      exact hK161 v7 v8 σ H locs ls hf I (lv_sub hl [0, 6, 7, 8] rfl)
    · have hf := if_f hf c_52
      refine lv_aload_n hx hb dX4_compare_102 rfl (lv_at hl 0 rfl) ?_
      refine lv_iload_n hx hb dX4_compare_103 rfl (lv_at hl 1 rfl) ?_
      refine lv_iload_n hx hb dX4_compare_104 rfl (lv_at hl 3 rfl) ?_
      refine lv_iload hx hb dX4_compare_105 (lv_at hl 4 rfl) ?_
      refine lv_iload hx hb dX4_compare_107 (lv_at hl 9 rfl) ?_
      refine lv_iadd hx hb dX4_compare_109 ?_
      refine lv_bipush (v := (12 : Int32)) hx hb dX4_compare_110 (by decide) ?_
      obtain ⟨r_53, σ_54, hg_55, hf⟩ := bd_some hf
      refine g_cvi (av := [.int b1, .int b3, .int (b4 + v9), .int (12 : Int32)]) (rest := []) (k := 0) C I AA.new (c_X4_lateOn l E o b1 b3 ((b4 + v9)) (12 : Int32) σ hg_55) (cwV 4 C.1.2.2.2.2 gX4_compare_X4_lateOn rfl rfl rfl (by decide +kernel) ⟨Nat.le_of_ble_eq_true rfl, Nat.le_of_ble_eq_true rfl⟩) (by decide) (gk_0 E o _) rfl rfl rfl hl.1 rfl (Nat.le_of_ble_eq_true rfl) ⟨Nat.le_of_ble_eq_true rfl, Nat.le_of_ble_eq_true rfl⟩ dX4_compare_112 (fun H locs I => ?_)
      refine lv_istore (lv' := [(10, .int r_53), (0, .ref (ad E 0)), (1, .int b1), (2, .int b2), (3, .int b3), (4, .int b4), (5, .int b5), (6, .int b6), (7, .int v7), (8, .int v8), (9, .int v9)]) hx hb dX4_compare_115 hl (by decide) rfl (fun ls hl => ?_)
      refine lv_aload_n hx hb dX4_compare_117 rfl (lv_at hl 1 rfl) ?_
      refine lv_iload_n hx hb dX4_compare_118 rfl (lv_at hl 3 rfl) ?_
      refine lv_iload_n hx hb dX4_compare_119 rfl (lv_at hl 4 rfl) ?_
      refine lv_iload hx hb dX4_compare_120 (lv_at hl 5 rfl) ?_
      refine lv_iload hx hb dX4_compare_122 (lv_at hl 10 rfl) ?_
      refine lv_iadd hx hb dX4_compare_124 ?_
      refine lv_bipush (v := (12 : Int32)) hx hb dX4_compare_125 (by decide) ?_
      obtain ⟨r_56, σ_57, hg_58, hf⟩ := bd_some hf
      refine g_cvi (av := [.int b2, .int b3, .int (b4 + v9), .int (12 : Int32)]) (rest := []) (k := 0) C I AA.new (c_X4_lateOn l E o b2 b3 ((b4 + v9)) (12 : Int32) σ_54 hg_58) (cwV 4 C.1.2.2.2.2 gX4_compare_X4_lateOn rfl rfl rfl (by decide +kernel) ⟨Nat.le_of_ble_eq_true rfl, Nat.le_of_ble_eq_true rfl⟩) (by decide) (gk_0 E o _) rfl rfl rfl hl.1 rfl (Nat.le_of_ble_eq_true rfl) ⟨Nat.le_of_ble_eq_true rfl, Nat.le_of_ble_eq_true rfl⟩ dX4_compare_127 (fun H locs I => ?_)
      refine lv_istore (lv' := [(11, .int r_56), (10, .int r_53), (0, .ref (ad E 0)), (1, .int b1), (2, .int b2), (3, .int b3), (4, .int b4), (5, .int b5), (6, .int b6), (7, .int v7), (8, .int v8), (9, .int v9)]) hx hb dX4_compare_130 hl (by decide) rfl (fun ls hl => ?_)
      refine lv_iload hx hb dX4_compare_132 (lv_at hl 1 rfl) ?_
      refine lv_iload hx hb dX4_compare_134 (lv_at hl 0 rfl) ?_
      refine lv_icmp_ge (tgt := 145) hx hb dX4_compare_136 (by decide) (fun c_59 => ?_) (fun c_59 => ?_)
      · have hf := if_t hf c_59
        refine lv_iload hx hb dX4_compare_145 (lv_at hl 1 rfl) ?_
        refine lv_iload hx hb dX4_compare_147 (lv_at hl 0 rfl) ?_
        refine lv_icmp_le (tgt := 155) hx hb dX4_compare_149 (by decide) (fun c_60 => ?_) (fun c_60 => ?_)
        · have hf := if_t hf c_60
          obtain ⟨x_61, ex_61⟩ : ∃ y : Int32, y = (v9 + (1 : Int32)) := ⟨_, rfl⟩
          have hf := lt_at hf ex_61
          refine lv_iinc (v := x_61) (lv' := [(9, .int x_61), (11, .int r_56), (10, .int r_53), (0, .ref (ad E 0)), (1, .int b1), (2, .int b2), (3, .int b3), (4, .int b4), (5, .int b5), (6, .int b6), (7, .int v7), (8, .int v8)]) hx hb dX4_compare_155 hl (k := 11) rfl (by rw [ex_61]; rfl) (by decide) rfl (fun ls hl => ?_)
          refine lv_goto (tgt := 95) hx hb dX4_compare_158 (by decide) ?_
          exact ih v7 v8 x_61 σ_57 H locs ls hf I (lv_sub hl [3, 4, 5, 6, 7, 8, 9, 10, 11, 0] rfl)
        · have hf := if_f hf c_60
          obtain ⟨x_62, ex_62⟩ : ∃ y : Int32, y = (v8 + (1 : Int32)) := ⟨_, rfl⟩
          have hf := lt_at hf ex_62
          refine lv_iinc (v := x_62) (lv' := [(8, .int x_62), (11, .int r_56), (10, .int r_53), (0, .ref (ad E 0)), (1, .int b1), (2, .int b2), (3, .int b3), (4, .int b4), (5, .int b5), (6, .int b6), (7, .int v7), (9, .int v9)]) hx hb dX4_compare_152 hl (k := 10) rfl (by rw [ex_62]; rfl) (by decide) rfl (fun ls hl => ?_)
          obtain ⟨x_63, ex_63⟩ : ∃ y : Int32, y = (v9 + (1 : Int32)) := ⟨_, rfl⟩
          have hf := lt_at hf ex_63
          refine lv_iinc (v := x_63) (lv' := [(9, .int x_63), (8, .int x_62), (11, .int r_56), (10, .int r_53), (0, .ref (ad E 0)), (1, .int b1), (2, .int b2), (3, .int b3), (4, .int b4), (5, .int b5), (6, .int b6), (7, .int v7)]) hx hb dX4_compare_155 hl (k := 11) rfl (by rw [ex_63]; rfl) (by decide) rfl (fun ls hl => ?_)
          refine lv_goto (tgt := 95) hx hb dX4_compare_158 (by decide) ?_
          exact ih v7 x_62 x_63 σ_57 H locs ls hf I (lv_sub hl [4, 5, 6, 7, 8, 9, 10, 11, 1, 0] rfl)
      · have hf := if_f hf c_59
        obtain ⟨x_64, ex_64⟩ : ∃ y : Int32, y = (v7 + (1 : Int32)) := ⟨_, rfl⟩
        have hf := lt_at hf ex_64
        refine lv_iinc (v := x_64) (lv' := [(7, .int x_64), (11, .int r_56), (10, .int r_53), (0, .ref (ad E 0)), (1, .int b1), (2, .int b2), (3, .int b3), (4, .int b4), (5, .int b5), (6, .int b6), (8, .int v8), (9, .int v9)]) hx hb dX4_compare_139 hl (k := 9) rfl (by rw [ex_64]; rfl) (by decide) rfl (fun ls hl => ?_)
        refine lv_goto (tgt := 155) hx hb dX4_compare_142 (by decide) ?_
        obtain ⟨x_65, ex_65⟩ : ∃ y : Int32, y = (v9 + (1 : Int32)) := ⟨_, rfl⟩
        have hf := lt_at hf ex_65
        refine lv_iinc (v := x_65) (lv' := [(9, .int x_65), (7, .int x_64), (11, .int r_56), (10, .int r_53), (0, .ref (ad E 0)), (1, .int b1), (2, .int b2), (3, .int b3), (4, .int b4), (5, .int b5), (6, .int b6), (8, .int v8)]) hx hb dX4_compare_155 hl (k := 11) rfl (by rw [ex_65]; rfl) (by decide) rfl (fun ls hl => ?_)
        refine lv_goto (tgt := 95) hx hb dX4_compare_158 (by decide) ?_
        exact ih x_64 v8 x_65 σ_57 H locs ls hf I (lv_sub hl [4, 5, 6, 7, 8, 9, 10, 1, 11, 0] rfl)
set_option maxHeartbeats 4000000 in
set_option maxRecDepth 100000 in
theorem c_X4_compare (l : Launch) (hst : l.stackTraces = false) (E : En) (o : Int64) (a1 : Int32) (a2 : Int32) (a3 : Int32) (a4 : Int32) (a5 : Int32) (a6 : Int32) (σ : St) {res : Ex × St} (hf : f_X4_compare a1 a2 a3 a4 a5 a6 σ = some res) : CXI l yX4_compare wsX4_compare rm_X4_compare E [.ref (ad E 0), .int a1, .int a2, .int a3, .int a4, .int a5, .int a6] o σ 3 18 res := by
  intro sz
  refine vx_ofW (cc := cX4_compare) (maxL := 12) (ret := (some .int)) (by decide) rfl ?_
  intro p e s m args below meth c s₁ B hml hex hv
  obtain ⟨rfl, hv, hZ, hN⟩ := hv
  obtain ⟨rfl, hK, I⟩ := hv.start
  have C : Cx p c cX4_compare 12 s m _ wsX4_compare RX4 E := ⟨⟨B.exec, B.bytes, hml, findClass_of_methodNamed B.named, atoms_spec (ws := wsX4_compare) B.pre⟩, hK⟩
  have hx := C.1.1
  have hb := C.1.2.1
  have hr := B.returns
  have hlocks := B.notSynchronized
  clear hv
  have hl := lv_entry ([.ref (ad E 0), .int a1, .int a2, .int a3, .int a4, .int a5, .int a6]) (n := 12) (Nat.le_of_ble_eq_true rfl)
  rw [lg_entry_eq]
  generalize (lg_sl ([.ref (ad E 0), .int a1, .int a2, .int a3, .int a4, .int a5, .int a6]) ++ List.replicate (12 - (lg_sl ([.ref (ad E 0), .int a1, .int a2, .int a3, .int a4, .int a5, .int a6])).length) Slot.unset).toArray = ls at hl ⊢
  have hl : lv_has ls 12 [(0, .ref (ad E 0)), (1, .int a1), (2, .int a2), (3, .int a3), (4, .int a4), (5, .int a5), (6, .int a6)] := hl
  generalize ([.ref (ad E 0), .int a1, .int a2, .int a3, .int a4, .int a5, .int a6] : List Value).toArray = args at C ⊢
  refine g_begin I (fun H locs I => ?_)
  rw [f_X4_compare] at hf
  refine lv_iload_n hx hb dX4_compare_0 rfl (lv_at hl 1 rfl) ?_
  refine lv_iconst (v := (4 : Int32)) hx hb dX4_compare_1 (by decide) ?_
  obtain ⟨r_1, σ_2, hg_3, hf⟩ := bd_some hf
  refine g_csi (av := [.int a1, .int (4 : Int32)]) (rest := []) C I AA.new (c_X4_isBelow l E o a1 (4 : Int32) σ hg_3) (cwS 2 C.1.2.2.2.2 gX4_compare_X4_isBelow rfl rfl rfl (by decide +kernel) ⟨Nat.le_of_ble_eq_true rfl, Nat.le_of_ble_eq_true rfl⟩) rfl hl.1 rfl (Nat.le_of_ble_eq_true rfl) ⟨Nat.le_of_ble_eq_true rfl, Nat.le_of_ble_eq_true rfl⟩ dX4_compare_2 (fun H locs I => ?_)
  obtain ⟨J_5, eJ_5, hf⟩ := lt_split hf
  have hJ_5 : ∀ (y_14 : Int32) (σ_15 : St) (H : Heap) (locs : List Loc) (ls : Array Slot), J_5 y_14 σ_15 = some res → Iv E (AA E s.heap.size) s.heap o σ_15 H locs → lv_has ls 12 [(0, .ref (ad E 0)), (1, .int a1), (2, .int a2), (3, .int a3), (4, .int a4), (5, .int a5), (6, .int a6)] → WW_X4_compare p l e s m args below meth c E o res H locs 0 0 (F0 m 31 ls [.int y_14]) := by
    intro y_14 σ_15 H locs ls hf I hl
    rw [eJ_5] at hf
    obtain ⟨rc_22, hg_18, hn_19, ht_20⟩ := bx_some hf
    refine g_xsv (av := [.int y_14]) (rest := []) C I hZ hN hex hlocks (c_X4_needKnown l hst E o y_14 σ_15 hg_18) (cwS 1 C.1.2.2.2.2 gX4_compare_X4_needKnown rfl rfl rfl (by decide +kernel) ⟨Nat.le_of_ble_eq_true rfl, Nat.le_of_ble_eq_true rfl⟩) rfl hl.1 rfl (Nat.le_of_ble_eq_true rfl) ⟨Nat.le_of_ble_eq_true rfl, Nat.le_of_ble_eq_true rfl⟩ (Nat.le_of_ble_eq_true rfl) (Nat.le_of_ble_eq_true rfl) ht_20 dX4_compare_31 (fun r_16 σ_17 H locs er_21 I => ?_)
    have hf := hn_19 r_16 σ_17 er_21
    refine lv_iload hx hb dX4_compare_34 (lv_at hl 5 rfl) ?_
    refine lv_iconst (v := (1 : Int32)) hx hb dX4_compare_36 (by decide) ?_
    refine lv_bipush (v := (20 : Int32)) hx hb dX4_compare_37 (by decide) ?_
    obtain ⟨r_23, σ_24, hg_25, hf⟩ := bd_some hf
    refine g_csi (av := [.int a5, .int (1 : Int32), .int (20 : Int32)]) (rest := []) C I AA.new (c_X4_isWithin l E o a5 (1 : Int32) (20 : Int32) σ_17 hg_25) (cwS 3 C.1.2.2.2.2 gX4_compare_X4_isWithin rfl rfl rfl (by decide +kernel) ⟨Nat.le_of_ble_eq_true rfl, Nat.le_of_ble_eq_true rfl⟩) rfl hl.1 rfl (Nat.le_of_ble_eq_true rfl) ⟨Nat.le_of_ble_eq_true rfl, Nat.le_of_ble_eq_true rfl⟩ dX4_compare_39 (fun H locs I => ?_)
    obtain ⟨J_27, eJ_27, hf⟩ := lt_split hf
    have hJ_27 : ∀ (y_32 : Int32) (σ_33 : St) (H : Heap) (locs : List Loc) (ls : Array Slot), J_27 y_32 σ_33 = some res → Iv E (AA E s.heap.size) s.heap o σ_33 H locs → lv_has ls 12 [(0, .ref (ad E 0)), (1, .int a1), (2, .int a2), (3, .int a3), (4, .int a4), (5, .int a5), (6, .int a6)] → WW_X4_compare p l e s m args below meth c E o res H locs 1 6 (F0 m 65 ls [.int y_32]) := by
      intro y_32 σ_33 H locs ls hf I hl
      rw [eJ_27] at hf
      obtain ⟨rc_40, hg_36, hn_37, ht_38⟩ := bx_some hf
      refine g_xsv (av := [.int y_32]) (rest := []) C I hZ hN hex hlocks (c_X4_needRange l hst E o y_32 σ_33 hg_36) (cwS 1 C.1.2.2.2.2 gX4_compare_X4_needRange rfl rfl rfl (by decide +kernel) ⟨Nat.le_of_ble_eq_true rfl, Nat.le_of_ble_eq_true rfl⟩) rfl hl.1 rfl (Nat.le_of_ble_eq_true rfl) ⟨Nat.le_of_ble_eq_true rfl, Nat.le_of_ble_eq_true rfl⟩ (Nat.le_of_ble_eq_true rfl) (Nat.le_of_ble_eq_true rfl) ht_38 dX4_compare_65 (fun r_34 σ_35 H locs er_39 I => ?_)
      have hf := hn_37 r_34 σ_35 er_39
      refine lv_aload_n hx hb dX4_compare_68 rfl (lv_at hl 0 rfl) ?_
      refine g_get (k := 0) (v := .ref (ad E 1)) C I (by decide) (gk_0 E o _) rfl in_X4_compare_X4 0 (by decide) (C.1.2.2.2.2 _ k_X4_compare_12) rfl dX4_compare_69 ?_
      refine g_get (k := 1) (v := .int (σ_35 1 6)) C I (by decide) (gk_1 E o _) rfl in_X4_compare_X3 6 (by decide) (C.1.2.2.2.2 _ k_X4_compare_59) rfl dX4_compare_72 ?_
      obtain ⟨J_42, eJ_42, hf⟩ := lt_split hf
      have hJ_42 : ∀ (y_43 : Int32) (σ_44 : St) (H : Heap) (locs : List Loc) (ls : Array Slot), J_42 y_43 σ_44 = some res → Iv E (AA E s.heap.size) s.heap o σ_44 H locs → lv_has ls 12 [(0, .ref (ad E 0)), (1, .int a1), (2, .int a2), (3, .int a3), (4, .int a4), (5, .int a5), (6, .int a6)] → WW_X4_compare p l e s m args below meth c E o res H locs 2 12 (F0 m 83 ls [.int y_43]) := by
        intro y_43 σ_44 H locs ls hf I hl
        rw [eJ_42] at hf
        obtain ⟨rc_51, hg_47, hn_48, ht_49⟩ := bx_some hf
        refine g_xsv (av := [.int y_43]) (rest := []) C I hZ hN hex hlocks (c_X4_needState l hst E o y_43 σ_44 hg_47) (cwS 1 C.1.2.2.2.2 gX4_compare_X4_needState rfl rfl rfl (by decide +kernel) ⟨Nat.le_of_ble_eq_true rfl, Nat.le_of_ble_eq_true rfl⟩) rfl hl.1 rfl (Nat.le_of_ble_eq_true rfl) ⟨Nat.le_of_ble_eq_true rfl, Nat.le_of_ble_eq_true rfl⟩ (Nat.le_of_ble_eq_true rfl) (Nat.le_of_ble_eq_true rfl) ht_49 dX4_compare_83 (fun r_45 σ_46 H locs er_50 I => ?_)
        have hf := hn_48 r_45 σ_46 er_50
        refine lv_iconst (v := (0 : Int32)) hx hb dX4_compare_86 (by decide) ?_
        refine lv_istore (lv' := [(7, .int (0 : Int32)), (0, .ref (ad E 0)), (1, .int a1), (2, .int a2), (3, .int a3), (4, .int a4), (5, .int a5), (6, .int a6)]) hx hb dX4_compare_87 hl (by decide) rfl (fun ls hl => ?_)
        refine lv_iconst (v := (0 : Int32)) hx hb dX4_compare_89 (by decide) ?_
        refine lv_istore (lv' := [(8, .int (0 : Int32)), (7, .int (0 : Int32)), (0, .ref (ad E 0)), (1, .int a1), (2, .int a2), (3, .int a3), (4, .int a4), (5, .int a5), (6, .int a6)]) hx hb dX4_compare_90 hl (by decide) rfl (fun ls hl => ?_)
        refine lv_iconst (v := (0 : Int32)) hx hb dX4_compare_92 (by decide) ?_
        refine lv_istore (lv' := [(9, .int (0 : Int32)), (8, .int (0 : Int32)), (7, .int (0 : Int32)), (0, .ref (ad E 0)), (1, .int a1), (2, .int a2), (3, .int a3), (4, .int a4), (5, .int a5), (6, .int a6)]) hx hb dX4_compare_93 hl (by decide) rfl (fun ls hl => ?_)
        refine lp_X4_compare_95 C hr hlocks a1 a2 a3 a4 a5 a6 _ ?_ _ (0 : Int32) (0 : Int32) (0 : Int32) σ_46 H locs ls hf I (lv_sub hl [3, 4, 5, 6, 7, 8, 9, 2, 1, 0] rfl)
        · intro y_66 y_67 σ_68 H locs ls hf I hl
          refine lv_aload_n hx hb dX4_compare_161 rfl (lv_at hl 0 rfl) ?_
          refine g_get (k := 0) (v := .ref (ad E 13)) C I (by decide) (gk_0 E o _) rfl in_X4_compare_X4 2 (by decide) (C.1.2.2.2.2 _ k_X4_compare_26) rfl dX4_compare_162 ?_
          obtain ⟨r_69, σ_70, hg_71, hf⟩ := bd_some hf
          refine g_cvv (av := []) (rest := []) (k := 13) C I AA.new (c_X2_forget l E o σ_68 hg_71) (cwV 0 C.1.2.2.2.2 gX4_compare_X2_forget rfl rfl rfl (by decide +kernel) ⟨Nat.le_of_ble_eq_true rfl, Nat.le_of_ble_eq_true rfl⟩) (by decide) (gk_13 E o _) rfl rfl rfl hl.1 rfl (Nat.le_of_ble_eq_true rfl) ⟨Nat.le_of_ble_eq_true rfl, Nat.le_of_ble_eq_true rfl⟩ dX4_compare_165 (fun H locs I => ?_)
          refine lv_iload hx hb dX4_compare_168 (lv_at hl 1 rfl) ?_
          refine lv_iconst (v := (2 : Int32)) hx hb dX4_compare_170 (by decide) ?_
          refine lv_icmp_ge (tgt := 187) hx hb dX4_compare_171 (by decide) (fun c_72 => ?_) (fun c_72 => ?_)
          · have hf := if_t hf c_72
            refine lv_iload hx hb dX4_compare_187 (lv_at hl 2 rfl) ?_
            refine lv_iload hx hb dX4_compare_189 (lv_at hl 3 rfl) ?_
            refine lv_iadd hx hb dX4_compare_191 ?_
            refine lv_topi (fun x_73 ex_73 => ?_)
            have hf := lt_at hf ex_73
            refine lv_istore (lv' := [(9, .int x_73), (0, .ref (ad E 0)), (6, .int a6), (7, .int y_66), (8, .int y_67)]) hx hb dX4_compare_192 hl (by decide) rfl (fun ls hl => ?_)
            refine lv_iload hx hb dX4_compare_194 (lv_at hl 0 rfl) ?_
            refine lv_iload hx hb dX4_compare_196 (lv_at hl 3 rfl) ?_
            obtain ⟨r_74, σ_75, hg_76, hf⟩ := bd_some hf
            refine g_csi (av := [.int x_73, .int y_66]) (rest := []) C I AA.new (c_X4_waysOfHeads l E o x_73 y_66 σ_70 hg_76) (cwS 2 C.1.2.2.2.2 gX4_compare_X4_waysOfHeads rfl rfl rfl (by decide +kernel) ⟨Nat.le_of_ble_eq_true rfl, Nat.le_of_ble_eq_true rfl⟩) rfl hl.1 rfl (Nat.le_of_ble_eq_true rfl) ⟨Nat.le_of_ble_eq_true rfl, Nat.le_of_ble_eq_true rfl⟩ dX4_compare_198 (fun H locs I => ?_)
            refine lv_iconst (v := (1 : Int32)) hx hb dX4_compare_201 (by decide) ?_
            refine lv_iload hx hb dX4_compare_202 (lv_at hl 0 rfl) ?_
            refine lv_ishl hx hb dX4_compare_204 ?_
            refine lv_iload hx hb dX4_compare_205 (lv_at hl 2 rfl) ?_
            refine lv_iconst (v := (2 : Int32)) hx hb dX4_compare_207 (by decide) ?_
            refine lv_icmp_ne (tgt := 215) hx hb dX4_compare_208 (by decide) (fun c_77 => ?_) (fun c_77 => ?_)
            · have hf := if_f hf c_77
              refine lv_iconst (v := (0 : Int32)) hx hb dX4_compare_215 (by decide) ?_
              obtain ⟨r_78, σ_79, hg_80, hf⟩ := bd_some hf
              refine g_csi (av := [.int r_74, .int ((1 : Int32) <<< (x_73 &&& 31)), .int (0 : Int32)]) (rest := []) C I AA.new (c_X4_lowestTerm l E o r_74 (((1 : Int32) <<< (x_73 &&& 31))) (0 : Int32) σ_75 hg_80) (cwS 3 C.1.2.2.2.2 gX4_compare_X4_lowestTerm rfl rfl rfl (by decide +kernel) ⟨Nat.le_of_ble_eq_true rfl, Nat.le_of_ble_eq_true rfl⟩) rfl hl.1 rfl (Nat.le_of_ble_eq_true rfl) ⟨Nat.le_of_ble_eq_true rfl, Nat.le_of_ble_eq_true rfl⟩ dX4_compare_216 (fun H locs I => ?_)
              exact g_xiret C I hr hlocks (Nat.le_of_ble_eq_true rfl) (Nat.le_of_ble_eq_true rfl) hf dX4_compare_219
            · have hf := if_t hf c_77
              refine lv_iconst (v := (1 : Int32)) hx hb dX4_compare_211 (by decide) ?_
              refine lv_goto (tgt := 216) hx hb dX4_compare_212 (by decide) ?_
              obtain ⟨r_81, σ_82, hg_83, hf⟩ := bd_some hf
              refine g_csi (av := [.int r_74, .int ((1 : Int32) <<< (x_73 &&& 31)), .int (1 : Int32)]) (rest := []) C I AA.new (c_X4_lowestTerm l E o r_74 (((1 : Int32) <<< (x_73 &&& 31))) (1 : Int32) σ_75 hg_83) (cwS 3 C.1.2.2.2.2 gX4_compare_X4_lowestTerm rfl rfl rfl (by decide +kernel) ⟨Nat.le_of_ble_eq_true rfl, Nat.le_of_ble_eq_true rfl⟩) rfl hl.1 rfl (Nat.le_of_ble_eq_true rfl) ⟨Nat.le_of_ble_eq_true rfl, Nat.le_of_ble_eq_true rfl⟩ dX4_compare_216 (fun H locs I => ?_)
              exact g_xiret C I hr hlocks (Nat.le_of_ble_eq_true rfl) (Nat.le_of_ble_eq_true rfl) hf dX4_compare_219
          · have hf := if_f hf c_72
            refine lv_iload hx hb dX4_compare_174 (lv_at hl 1 rfl) ?_
            refine lv_if_ne (tgt := 184) hx hb dX4_compare_176 (by decide) (fun c_84 => ?_) (fun c_84 => ?_)
            · have hf := if_f hf c_84
              refine lv_iload hx hb dX4_compare_184 (lv_at hl 3 rfl) ?_
              exact g_xiret C I hr hlocks (Nat.le_of_ble_eq_true rfl) (Nat.le_of_ble_eq_true rfl) hf dX4_compare_186
            · have hf := if_t hf c_84
              refine lv_iload hx hb dX4_compare_179 (lv_at hl 2 rfl) ?_
              refine lv_goto (tgt := 186) hx hb dX4_compare_181 (by decide) ?_
              exact g_xiret C I hr hlocks (Nat.le_of_ble_eq_true rfl) (Nat.le_of_ble_eq_true rfl) hf dX4_compare_186
      refine lv_if_le (tgt := 82) hx hb dX4_compare_75 (by decide) (fun c_41 => ?_) (fun c_41 => ?_)
      · have hf := if_t hf c_41
        refine lv_iconst (v := (0 : Int32)) hx hb dX4_compare_82 (by decide) ?_
        exact hJ_42 _ σ_35 H locs ls hf I (lv_sub hl [0, 1, 2, 3, 4, 5, 6] rfl)
      · have hf := if_f hf c_41
        refine lv_iconst (v := (1 : Int32)) hx hb dX4_compare_78 (by decide) ?_
        refine lv_goto (tgt := 83) hx hb dX4_compare_79 (by decide) ?_
        exact hJ_42 _ σ_35 H locs ls hf I (lv_sub hl [0, 1, 2, 3, 4, 5, 6] rfl)
    refine lv_if_eq (tgt := 64) hx hb dX4_compare_42 (by decide) (fun c_26 => ?_) (fun c_26 => ?_)
    · have hf := if_t hf c_26
      refine lv_iconst (v := (0 : Int32)) hx hb dX4_compare_64 (by decide) ?_
      exact hJ_27 _ σ_24 H locs ls hf I (lv_sub hl [0, 1, 2, 3, 4, 5, 6] rfl)
    · have hf := if_f hf c_26
      refine lv_iload hx hb dX4_compare_45 (lv_at hl 4 rfl) ?_
      refine lv_iconst (v := (0 : Int32)) hx hb dX4_compare_47 (by decide) ?_
      refine lv_sipush (v := (1000 : Int32)) hx hb dX4_compare_48 (by decide) ?_
      refine lv_iload hx hb dX4_compare_51 (lv_at hl 5 rfl) ?_
      refine lv_isub hx hb dX4_compare_53 ?_
      obtain ⟨r_28, σ_29, hg_30, hf⟩ := bd_some hf
      refine g_csi (av := [.int a4, .int (0 : Int32), .int ((1000 : Int32) - a5)]) (rest := []) C I AA.new (c_X4_isWithin l E o a4 (0 : Int32) (((1000 : Int32) - a5)) σ_24 hg_30) (cwS 3 C.1.2.2.2.2 gX4_compare_X4_isWithin rfl rfl rfl (by decide +kernel) ⟨Nat.le_of_ble_eq_true rfl, Nat.le_of_ble_eq_true rfl⟩) rfl hl.1 rfl (Nat.le_of_ble_eq_true rfl) ⟨Nat.le_of_ble_eq_true rfl, Nat.le_of_ble_eq_true rfl⟩ dX4_compare_54 (fun H locs I => ?_)
      refine lv_if_eq (tgt := 64) hx hb dX4_compare_57 (by decide) (fun c_31 => ?_) (fun c_31 => ?_)
      · have hf := if_t hf c_31
        refine lv_iconst (v := (0 : Int32)) hx hb dX4_compare_64 (by decide) ?_
        exact hJ_27 _ σ_29 H locs ls hf I (lv_sub hl [0, 1, 2, 3, 4, 5, 6] rfl)
      · have hf := if_f hf c_31
        refine lv_iconst (v := (1 : Int32)) hx hb dX4_compare_60 (by decide) ?_
        refine lv_goto (tgt := 65) hx hb dX4_compare_61 (by decide) ?_
        exact hJ_27 _ σ_29 H locs ls hf I (lv_sub hl [0, 1, 2, 3, 4, 5, 6] rfl)
  refine lv_if_eq (tgt := 30) hx hb dX4_compare_5 (by decide) (fun c_4 => ?_) (fun c_4 => ?_)
  · have hf := if_t hf c_4
    refine lv_iconst (v := (0 : Int32)) hx hb dX4_compare_30 (by decide) ?_
    exact hJ_5 _ σ_2 H locs ls hf I (lv_sub hl [0, 1, 2, 3, 4, 5, 6] rfl)
  · have hf := if_f hf c_4
    refine lv_iload_n hx hb dX4_compare_8 rfl (lv_at hl 2 rfl) ?_
    refine lv_iconst (v := (4 : Int32)) hx hb dX4_compare_9 (by decide) ?_
    obtain ⟨r_6, σ_7, hg_8, hf⟩ := bd_some hf
    refine g_csi (av := [.int a2, .int (4 : Int32)]) (rest := []) C I AA.new (c_X4_isBelow l E o a2 (4 : Int32) σ_2 hg_8) (cwS 2 C.1.2.2.2.2 gX4_compare_X4_isBelow rfl rfl rfl (by decide +kernel) ⟨Nat.le_of_ble_eq_true rfl, Nat.le_of_ble_eq_true rfl⟩) rfl hl.1 rfl (Nat.le_of_ble_eq_true rfl) ⟨Nat.le_of_ble_eq_true rfl, Nat.le_of_ble_eq_true rfl⟩ dX4_compare_10 (fun H locs I => ?_)
    refine lv_if_eq (tgt := 30) hx hb dX4_compare_13 (by decide) (fun c_9 => ?_) (fun c_9 => ?_)
    · have hf := if_t hf c_9
      refine lv_iconst (v := (0 : Int32)) hx hb dX4_compare_30 (by decide) ?_
      exact hJ_5 _ σ_7 H locs ls hf I (lv_sub hl [0, 1, 2, 3, 4, 5, 6] rfl)
    · have hf := if_f hf c_9
      refine lv_iload hx hb dX4_compare_16 (lv_at hl 6 rfl) ?_
      refine lv_iconst (v := (0 : Int32)) hx hb dX4_compare_18 (by decide) ?_
      refine lv_iconst (v := (3 : Int32)) hx hb dX4_compare_19 (by decide) ?_
      obtain ⟨r_10, σ_11, hg_12, hf⟩ := bd_some hf
      refine g_csi (av := [.int a6, .int (0 : Int32), .int (3 : Int32)]) (rest := []) C I AA.new (c_X4_isWithin l E o a6 (0 : Int32) (3 : Int32) σ_7 hg_12) (cwS 3 C.1.2.2.2.2 gX4_compare_X4_isWithin rfl rfl rfl (by decide +kernel) ⟨Nat.le_of_ble_eq_true rfl, Nat.le_of_ble_eq_true rfl⟩) rfl hl.1 rfl (Nat.le_of_ble_eq_true rfl) ⟨Nat.le_of_ble_eq_true rfl, Nat.le_of_ble_eq_true rfl⟩ dX4_compare_20 (fun H locs I => ?_)
      refine lv_if_eq (tgt := 30) hx hb dX4_compare_23 (by decide) (fun c_13 => ?_) (fun c_13 => ?_)
      · have hf := if_t hf c_13
        refine lv_iconst (v := (0 : Int32)) hx hb dX4_compare_30 (by decide) ?_
        exact hJ_5 _ σ_11 H locs ls hf I (lv_sub hl [0, 1, 2, 3, 4, 5, 6] rfl)
      · have hf := if_f hf c_13
        refine lv_iconst (v := (1 : Int32)) hx hb dX4_compare_26 (by decide) ?_
        refine lv_goto (tgt := 31) hx hb dX4_compare_27 (by decide) ?_
        exact hJ_5 _ σ_11 H locs ls hf I (lv_sub hl [0, 1, 2, 3, 4, 5, 6] rfl)
