/-! contracts, by wip/gen/walk.py -/
abbrev rm_X5_station : Room := { frames := 2, cells := 0, slots := 0, locals := 43 }
abbrev WW_X5_station (p : Program) (l : Launch) (e : Env) (s : State) (m : MethodId) (args : Array Value) (below : List Frame) (meth : Method) (c : Code) (E : En) (o : Int64) (res : Int32 × St) (H : Heap) (locs : List Loc) (cells slots : Nat) (g : JFrame) : Prop := W p l e (headSpec wsX5_station rm_X5_station).room s m args below meth c H locs cells slots (MQ below (Qi E s.heap.size o res.1 res.2) args s 0 0 (AA E s.heap.size)) g
theorem k_X5_station_76 : Cond.fieldLink RX5 76 "DaySimulateModel" "stations" "I" ∈ wsX5_station := by decide +kernel
theorem k_X5_station_20 : Cond.fieldLink RX5 20 "DaySimulateModel" "stationY" "[I" ∈ wsX5_station := by decide +kernel
theorem k_X5_station_16 : Cond.fieldLink RX5 16 "DaySimulateModel" "stationX" "[I" ∈ wsX5_station := by decide +kernel
theorem in_X5_station_X5 : ∀ w ∈ wsX50, w ∈ wsX5_station := by decide +kernel
set_option maxHeartbeats 4000000 in
set_option maxRecDepth 100000 in
theorem c_X5_station (l : Launch) (E : En) (o : Int64) (a1 : Int32) (a2 : Int32) (σ : St) {res : Int32 × St} (hf : f_X5_station a1 a2 σ = some res) : CI l yX5_station wsX5_station rm_X5_station E [.ref (ad E 39), .int a1, .int a2] o σ res.1 res.2 := by
  intro sz
  refine Met.ofW (cc := cX5_station) (maxL := 3) (ret := (some .int)) (by decide) rfl ?_
  intro p e s m args below meth c s₁ B hml hv
  obtain ⟨rfl, hv⟩ := hv
  obtain ⟨rfl, hK, I⟩ := hv.start
  have C : Cx p c cX5_station 3 s m _ wsX5_station RX5 E := ⟨⟨B.exec, B.bytes, hml, findClass_of_methodNamed B.named, atoms_spec (ws := wsX5_station) B.pre⟩, hK⟩
  have hx := C.1.1
  have hb := C.1.2.1
  have hr := B.returns
  have hlocks := B.notSynchronized
  clear hv
  have hl := lv_entry ([.ref (ad E 39), .int a1, .int a2]) (n := 3) (Nat.le_of_ble_eq_true rfl)
  rw [lg_entry_eq]
  generalize (lg_sl ([.ref (ad E 39), .int a1, .int a2]) ++ List.replicate (3 - (lg_sl ([.ref (ad E 39), .int a1, .int a2])).length) Slot.unset).toArray = ls at hl ⊢
  have hl : lv_has ls 3 [(0, .ref (ad E 39)), (1, .int a1), (2, .int a2)] := hl
  generalize ([.ref (ad E 39), .int a1, .int a2] : List Value).toArray = args at C ⊢
  refine g_begin I (fun H locs I => ?_)
  rw [f_X5_station] at hf
  refine lv_aload_n hx hb dX5_station_0 rfl (lv_at hl 0 rfl) ?_
  refine lv_iload_n hx hb dX5_station_1 rfl (lv_at hl 1 rfl) ?_
  refine lv_iload_n hx hb dX5_station_2 rfl (lv_at hl 2 rfl) ?_
  obtain ⟨r_1, σ_2, hg_3, hf⟩ := bd_some hf
  refine g_csi (av := [.int a1, .int a2]) (rest := [.ref (ad E 39)]) C I AA.new (c_X5_isSpot l E o a1 a2 σ hg_3) (cwS 2 C.1.2.2.2.2 gX5_station_X5_isSpot rfl rfl rfl (by decide +kernel) ⟨Nat.le_of_ble_eq_true rfl, Nat.le_of_ble_eq_true rfl⟩) rfl hl.1 rfl (Nat.le_of_ble_eq_true rfl) ⟨Nat.le_of_ble_eq_true rfl, Nat.le_of_ble_eq_true rfl⟩ dX5_station_3 (fun H locs I => ?_)
  obtain ⟨J_5, eJ_5, hf⟩ := lt_split hf
  have hJ_5 : ∀ (y_6 : Int32) (σ_7 : St) (H : Heap) (locs : List Loc) (ls : Array Slot), J_5 y_6 σ_7 = some res → Iv E (AA E s.heap.size) s.heap o σ_7 H locs → lv_has ls 3 [(0, .ref (ad E 39)), (1, .int a1), (2, .int a2)] → WW_X5_station p l e s m args below meth c E o res H locs 0 0 (F0 m 14 ls [.int y_6, .ref (ad E 39)]) := by
    intro y_6 σ_7 H locs ls hf I hl
    rw [eJ_5] at hf
    refine lv_aload_n hx hb dX5_station_14 rfl (lv_at hl 0 rfl) ?_
    refine g_get (k := 39) (v := .int (σ_7 39 3)) C I (by decide) (gk_39 E o _) rfl in_X5_station_X5 3 (by decide) (C.1.2.2.2.2 _ k_X5_station_76) rfl dX5_station_15 ?_
    refine lv_bipush (v := (6 : Int32)) hx hb dX5_station_18 (by decide) ?_
    obtain ⟨J_9, eJ_9, hf⟩ := lt_split hf
    have hJ_9 : ∀ (y_10 : Int32) (σ_11 : St) (H : Heap) (locs : List Loc) (ls : Array Slot), J_9 y_10 σ_11 = some res → Iv E (AA E s.heap.size) s.heap o σ_11 H locs → lv_has ls 3 [(0, .ref (ad E 39)), (1, .int a1), (2, .int a2)] → WW_X5_station p l e s m args below meth c E o res H locs 0 0 (F0 m 28 ls [.int y_10, .int y_6, .ref (ad E 39)]) := by
      intro y_10 σ_11 H locs ls hf I hl
      rw [eJ_9] at hf
      refine lv_iconst (v := (0 : Int32)) hx hb dX5_station_28 (by decide) ?_
      obtain ⟨r_12, σ_13, hg_14, hf⟩ := bd_some hf
      refine g_cvi (av := [.int y_6, .int y_10, .int (0 : Int32)]) (rest := []) (k := 39) C I AA.new (c_X5_throwing l E o y_6 y_10 (0 : Int32) σ_11 hg_14) (cwV 3 C.1.2.2.2.2 gX5_station_X5_throwing rfl rfl rfl (by decide +kernel) ⟨Nat.le_of_ble_eq_true rfl, Nat.le_of_ble_eq_true rfl⟩) (by decide) (gk_39 E o _) rfl rfl rfl hl.1 rfl (Nat.le_of_ble_eq_true rfl) ⟨Nat.le_of_ble_eq_true rfl, Nat.le_of_ble_eq_true rfl⟩ dX5_station_29 (fun H locs I => ?_)
      refine lv_if_eq (tgt := 37) hx hb dX5_station_32 (by decide) (fun c_15 => ?_) (fun c_15 => ?_)
      · have hf := if_t hf c_15
        refine lv_aload_n hx hb dX5_station_37 rfl (lv_at hl 0 rfl) ?_
        refine g_get (k := 39) (v := .ref (ad E 40)) C I (by decide) (gk_39 E o _) rfl in_X5_station_X5 4 (by decide) (C.1.2.2.2.2 _ k_X5_station_16) rfl dX5_station_38 ?_
        refine lv_aload_n hx hb dX5_station_41 rfl (lv_at hl 0 rfl) ?_
        refine g_get (k := 39) (v := .int (σ_13 39 3)) C I (by decide) (gk_39 E o _) rfl in_X5_station_X5 3 (by decide) (C.1.2.2.2.2 _ k_X5_station_76) rfl dX5_station_42 ?_
        refine lv_iload_n hx hb dX5_station_45 rfl (lv_at hl 1 rfl) ?_
        obtain ⟨h_16, hf⟩ := ck_some hf
        refine g_iast (k := 40) C I (by decide) (gk_40 E o) (ixb_in h_16) dX5_station_46 (fun H locs σ_17 eσ_17 I => ?_)
        have hf := lt_at hf eσ_17
        refine lv_aload_n hx hb dX5_station_47 rfl (lv_at hl 0 rfl) ?_
        refine g_get (k := 39) (v := .ref (ad E 41)) C I (by decide) (gk_39 E o _) rfl in_X5_station_X5 5 (by decide) (C.1.2.2.2.2 _ k_X5_station_20) rfl dX5_station_48 ?_
        refine lv_aload_n hx hb dX5_station_51 rfl (lv_at hl 0 rfl) ?_
        refine g_get (k := 39) (v := .int (σ_17 39 3)) C I (by decide) (gk_39 E o _) rfl in_X5_station_X5 3 (by decide) (C.1.2.2.2.2 _ k_X5_station_76) rfl dX5_station_52 ?_
        refine lv_iload_n hx hb dX5_station_55 rfl (lv_at hl 2 rfl) ?_
        obtain ⟨h_18, hf⟩ := ck_some hf
        refine g_iast (k := 41) C I (by decide) (gk_41 E o) (ixb_in h_18) dX5_station_56 (fun H locs σ_19 eσ_19 I => ?_)
        have hf := lt_at hf eσ_19
        refine lv_aload_n hx hb dX5_station_57 rfl (lv_at hl 0 rfl) ?_
        refine lv_dup hx hb dX5_station_58 rfl ?_
        refine g_get (k := 39) (v := .int (σ_19 39 3)) C I (by decide) (gk_39 E o _) rfl in_X5_station_X5 3 (by decide) (C.1.2.2.2.2 _ k_X5_station_76) rfl dX5_station_59 ?_
        refine lv_iconst (v := (1 : Int32)) hx hb dX5_station_62 (by decide) ?_
        refine lv_iadd hx hb dX5_station_63 ?_
        refine g_put (k := 39) (v := ((σ_19 39 3) + (1 : Int32))) C I (by decide) (gk_39 E o) rfl in_X5_station_X5 tyX5 tyX5_ok nmX5 3 (by decide) (C.1.2.2.2.2 _ k_X5_station_76) rfl (by decide +kernel) (Nat.le_of_ble_eq_true rfl) rfl dX5_station_64 (fun H locs σ_20 eσ_20 I => ?_)
        have hf := lt_at hf eσ_20
        refine lv_aload_n hx hb dX5_station_67 rfl (lv_at hl 0 rfl) ?_
        refine g_get (k := 39) (v := .int (σ_20 39 3)) C I (by decide) (gk_39 E o _) rfl in_X5_station_X5 3 (by decide) (C.1.2.2.2.2 _ k_X5_station_76) rfl dX5_station_68 ?_
        refine lv_iconst (v := (1 : Int32)) hx hb dX5_station_71 (by decide) ?_
        refine lv_isub hx hb dX5_station_72 ?_
        exact g_iret C I hr hlocks hf dX5_station_73
      · have hf := if_f hf c_15
        refine lv_iconst (v := (0 : Int32)) hx hb dX5_station_35 (by decide) ?_
        exact g_iret C I hr hlocks hf dX5_station_36
    refine lv_icmp_ne (tgt := 27) hx hb dX5_station_20 (by decide) (fun c_8 => ?_) (fun c_8 => ?_)
    · have hf := if_f hf c_8
      refine lv_iconst (v := (0 : Int32)) hx hb dX5_station_27 (by decide) ?_
      exact hJ_9 _ σ_7 H locs ls hf I (lv_sub hl [0, 1, 2] rfl)
    · have hf := if_t hf c_8
      refine lv_iconst (v := (1 : Int32)) hx hb dX5_station_23 (by decide) ?_
      refine lv_goto (tgt := 28) hx hb dX5_station_24 (by decide) ?_
      exact hJ_9 _ σ_7 H locs ls hf I (lv_sub hl [0, 1, 2] rfl)
  refine lv_if_ne (tgt := 13) hx hb dX5_station_6 (by decide) (fun c_4 => ?_) (fun c_4 => ?_)
  · have hf := if_f hf c_4
    refine lv_iconst (v := (0 : Int32)) hx hb dX5_station_13 (by decide) ?_
    exact hJ_5 _ σ_2 H locs ls hf I (lv_sub hl [0, 1, 2] rfl)
  · have hf := if_t hf c_4
    refine lv_iconst (v := (1 : Int32)) hx hb dX5_station_9 (by decide) ?_
    refine lv_goto (tgt := 14) hx hb dX5_station_10 (by decide) ?_
    exact hJ_5 _ σ_2 H locs ls hf I (lv_sub hl [0, 1, 2] rfl)
abbrev rm_X5_area : Room := { frames := 2, cells := 0, slots := 0, locals := 43 }
abbrev WW_X5_area (p : Program) (l : Launch) (e : Env) (s : State) (m : MethodId) (args : Array Value) (below : List Frame) (meth : Method) (c : Code) (E : En) (o : Int64) (res : Int32 × St) (H : Heap) (locs : List Loc) (cells slots : Nat) (g : JFrame) : Prop := W p l e (headSpec wsX5_area rm_X5_area).room s m args below meth c H locs cells slots (MQ below (Qi E s.heap.size o res.1 res.2) args s 0 0 (AA E s.heap.size)) g
theorem k_X5_area_83 : Cond.fieldLink RX5 83 "DaySimulateModel" "areas" "I" ∈ wsX5_area := by decide +kernel
theorem k_X5_area_29 : Cond.fieldLink RX5 29 "DaySimulateModel" "weight" "[I" ∈ wsX5_area := by decide +kernel
theorem k_X5_area_26 : Cond.fieldLink RX5 26 "DaySimulateModel" "areaY" "[I" ∈ wsX5_area := by decide +kernel
theorem k_X5_area_23 : Cond.fieldLink RX5 23 "DaySimulateModel" "areaX" "[I" ∈ wsX5_area := by decide +kernel
theorem in_X5_area_X5 : ∀ w ∈ wsX50, w ∈ wsX5_area := by decide +kernel
set_option maxHeartbeats 4000000 in
set_option maxRecDepth 100000 in
theorem c_X5_area (l : Launch) (E : En) (o : Int64) (a1 : Int32) (a2 : Int32) (a3 : Int32) (σ : St) {res : Int32 × St} (hf : f_X5_area a1 a2 a3 σ = some res) : CI l yX5_area wsX5_area rm_X5_area E [.ref (ad E 39), .int a1, .int a2, .int a3] o σ res.1 res.2 := by
  intro sz
  refine Met.ofW (cc := cX5_area) (maxL := 4) (ret := (some .int)) (by decide) rfl ?_
  intro p e s m args below meth c s₁ B hml hv
  obtain ⟨rfl, hv⟩ := hv
  obtain ⟨rfl, hK, I⟩ := hv.start
  have C : Cx p c cX5_area 4 s m _ wsX5_area RX5 E := ⟨⟨B.exec, B.bytes, hml, findClass_of_methodNamed B.named, atoms_spec (ws := wsX5_area) B.pre⟩, hK⟩
  have hx := C.1.1
  have hb := C.1.2.1
  have hr := B.returns
  have hlocks := B.notSynchronized
  clear hv
  have hl := lv_entry ([.ref (ad E 39), .int a1, .int a2, .int a3]) (n := 4) (Nat.le_of_ble_eq_true rfl)
  rw [lg_entry_eq]
  generalize (lg_sl ([.ref (ad E 39), .int a1, .int a2, .int a3]) ++ List.replicate (4 - (lg_sl ([.ref (ad E 39), .int a1, .int a2, .int a3])).length) Slot.unset).toArray = ls at hl ⊢
  have hl : lv_has ls 4 [(0, .ref (ad E 39)), (1, .int a1), (2, .int a2), (3, .int a3)] := hl
  generalize ([.ref (ad E 39), .int a1, .int a2, .int a3] : List Value).toArray = args at C ⊢
  refine g_begin I (fun H locs I => ?_)
  rw [f_X5_area] at hf
  refine lv_aload_n hx hb dX5_area_0 rfl (lv_at hl 0 rfl) ?_
  refine lv_iload_n hx hb dX5_area_1 rfl (lv_at hl 1 rfl) ?_
  refine lv_iload_n hx hb dX5_area_2 rfl (lv_at hl 2 rfl) ?_
  obtain ⟨r_1, σ_2, hg_3, hf⟩ := bd_some hf
  refine g_csi (av := [.int a1, .int a2]) (rest := [.ref (ad E 39)]) C I AA.new (c_X5_isSpot l E o a1 a2 σ hg_3) (cwS 2 C.1.2.2.2.2 gX5_area_X5_isSpot rfl rfl rfl (by decide +kernel) ⟨Nat.le_of_ble_eq_true rfl, Nat.le_of_ble_eq_true rfl⟩) rfl hl.1 rfl (Nat.le_of_ble_eq_true rfl) ⟨Nat.le_of_ble_eq_true rfl, Nat.le_of_ble_eq_true rfl⟩ dX5_area_3 (fun H locs I => ?_)
  obtain ⟨J_5, eJ_5, hf⟩ := lt_split hf
  have hJ_5 : ∀ (y_10 : Int32) (σ_11 : St) (H : Heap) (locs : List Loc) (ls : Array Slot), J_5 y_10 σ_11 = some res → Iv E (AA E s.heap.size) s.heap o σ_11 H locs → lv_has ls 4 [(0, .ref (ad E 39)), (1, .int a1), (2, .int a2), (3, .int a3)] → WW_X5_area p l e s m args below meth c E o res H locs 0 0 (F0 m 24 ls [.int y_10, .ref (ad E 39)]) := by
    intro y_10 σ_11 H locs ls hf I hl
    rw [eJ_5] at hf
    refine lv_aload_n hx hb dX5_area_24 rfl (lv_at hl 0 rfl) ?_
    refine g_get (k := 39) (v := .int (σ_11 39 6)) C I (by decide) (gk_39 E o _) rfl in_X5_area_X5 6 (by decide) (C.1.2.2.2.2 _ k_X5_area_83) rfl dX5_area_25 ?_
    refine lv_bipush (v := (10 : Int32)) hx hb dX5_area_28 (by decide) ?_
    obtain ⟨J_13, eJ_13, hf⟩ := lt_split hf
    have hJ_13 : ∀ (y_14 : Int32) (σ_15 : St) (H : Heap) (locs : List Loc) (ls : Array Slot), J_13 y_14 σ_15 = some res → Iv E (AA E s.heap.size) s.heap o σ_15 H locs → lv_has ls 4 [(0, .ref (ad E 39)), (1, .int a1), (2, .int a2), (3, .int a3)] → WW_X5_area p l e s m args below meth c E o res H locs 0 0 (F0 m 38 ls [.int y_14, .int y_10, .ref (ad E 39)]) := by
      intro y_14 σ_15 H locs ls hf I hl
      rw [eJ_13] at hf
      refine lv_iconst (v := (0 : Int32)) hx hb dX5_area_38 (by decide) ?_
      obtain ⟨r_16, σ_17, hg_18, hf⟩ := bd_some hf
      refine g_cvi (av := [.int y_10, .int y_14, .int (0 : Int32)]) (rest := []) (k := 39) C I AA.new (c_X5_throwing l E o y_10 y_14 (0 : Int32) σ_15 hg_18) (cwV 3 C.1.2.2.2.2 gX5_area_X5_throwing rfl rfl rfl (by decide +kernel) ⟨Nat.le_of_ble_eq_true rfl, Nat.le_of_ble_eq_true rfl⟩) (by decide) (gk_39 E o _) rfl rfl rfl hl.1 rfl (Nat.le_of_ble_eq_true rfl) ⟨Nat.le_of_ble_eq_true rfl, Nat.le_of_ble_eq_true rfl⟩ dX5_area_39 (fun H locs I => ?_)
      refine lv_if_eq (tgt := 47) hx hb dX5_area_42 (by decide) (fun c_19 => ?_) (fun c_19 => ?_)
      · have hf := if_t hf c_19
        refine lv_aload_n hx hb dX5_area_47 rfl (lv_at hl 0 rfl) ?_
        refine g_get (k := 39) (v := .ref (ad E 42)) C I (by decide) (gk_39 E o _) rfl in_X5_area_X5 7 (by decide) (C.1.2.2.2.2 _ k_X5_area_23) rfl dX5_area_48 ?_
        refine lv_aload_n hx hb dX5_area_51 rfl (lv_at hl 0 rfl) ?_
        refine g_get (k := 39) (v := .int (σ_17 39 6)) C I (by decide) (gk_39 E o _) rfl in_X5_area_X5 6 (by decide) (C.1.2.2.2.2 _ k_X5_area_83) rfl dX5_area_52 ?_
        refine lv_iload_n hx hb dX5_area_55 rfl (lv_at hl 1 rfl) ?_
        obtain ⟨h_20, hf⟩ := ck_some hf
        refine g_iast (k := 42) C I (by decide) (gk_42 E o) (ixb_in h_20) dX5_area_56 (fun H locs σ_21 eσ_21 I => ?_)
        have hf := lt_at hf eσ_21
        refine lv_aload_n hx hb dX5_area_57 rfl (lv_at hl 0 rfl) ?_
        refine g_get (k := 39) (v := .ref (ad E 43)) C I (by decide) (gk_39 E o _) rfl in_X5_area_X5 8 (by decide) (C.1.2.2.2.2 _ k_X5_area_26) rfl dX5_area_58 ?_
        refine lv_aload_n hx hb dX5_area_61 rfl (lv_at hl 0 rfl) ?_
        refine g_get (k := 39) (v := .int (σ_21 39 6)) C I (by decide) (gk_39 E o _) rfl in_X5_area_X5 6 (by decide) (C.1.2.2.2.2 _ k_X5_area_83) rfl dX5_area_62 ?_
        refine lv_iload_n hx hb dX5_area_65 rfl (lv_at hl 2 rfl) ?_
        obtain ⟨h_22, hf⟩ := ck_some hf
        refine g_iast (k := 43) C I (by decide) (gk_43 E o) (ixb_in h_22) dX5_area_66 (fun H locs σ_23 eσ_23 I => ?_)
        have hf := lt_at hf eσ_23
        refine lv_aload_n hx hb dX5_area_67 rfl (lv_at hl 0 rfl) ?_
        refine g_get (k := 39) (v := .ref (ad E 44)) C I (by decide) (gk_39 E o _) rfl in_X5_area_X5 9 (by decide) (C.1.2.2.2.2 _ k_X5_area_29) rfl dX5_area_68 ?_
        refine lv_aload_n hx hb dX5_area_71 rfl (lv_at hl 0 rfl) ?_
        refine g_get (k := 39) (v := .int (σ_23 39 6)) C I (by decide) (gk_39 E o _) rfl in_X5_area_X5 6 (by decide) (C.1.2.2.2.2 _ k_X5_area_83) rfl dX5_area_72 ?_
        refine lv_iload_n hx hb dX5_area_75 rfl (lv_at hl 3 rfl) ?_
        obtain ⟨h_24, hf⟩ := ck_some hf
        refine g_iast (k := 44) C I (by decide) (gk_44 E o) (ixb_in h_24) dX5_area_76 (fun H locs σ_25 eσ_25 I => ?_)
        have hf := lt_at hf eσ_25
        refine lv_aload_n hx hb dX5_area_77 rfl (lv_at hl 0 rfl) ?_
        refine lv_dup hx hb dX5_area_78 rfl ?_
        refine g_get (k := 39) (v := .int (σ_25 39 6)) C I (by decide) (gk_39 E o _) rfl in_X5_area_X5 6 (by decide) (C.1.2.2.2.2 _ k_X5_area_83) rfl dX5_area_79 ?_
        refine lv_iconst (v := (1 : Int32)) hx hb dX5_area_82 (by decide) ?_
        refine lv_iadd hx hb dX5_area_83 ?_
        refine g_put (k := 39) (v := ((σ_25 39 6) + (1 : Int32))) C I (by decide) (gk_39 E o) rfl in_X5_area_X5 tyX5 tyX5_ok nmX5 6 (by decide) (C.1.2.2.2.2 _ k_X5_area_83) rfl (by decide +kernel) (Nat.le_of_ble_eq_true rfl) rfl dX5_area_84 (fun H locs σ_26 eσ_26 I => ?_)
        have hf := lt_at hf eσ_26
        refine lv_aload_n hx hb dX5_area_87 rfl (lv_at hl 0 rfl) ?_
        refine g_get (k := 39) (v := .int (σ_26 39 6)) C I (by decide) (gk_39 E o _) rfl in_X5_area_X5 6 (by decide) (C.1.2.2.2.2 _ k_X5_area_83) rfl dX5_area_88 ?_
        refine lv_iconst (v := (1 : Int32)) hx hb dX5_area_91 (by decide) ?_
        refine lv_isub hx hb dX5_area_92 ?_
        exact g_iret C I hr hlocks hf dX5_area_93
      · have hf := if_f hf c_19
        refine lv_iconst (v := (0 : Int32)) hx hb dX5_area_45 (by decide) ?_
        exact g_iret C I hr hlocks hf dX5_area_46
    refine lv_icmp_ne (tgt := 37) hx hb dX5_area_30 (by decide) (fun c_12 => ?_) (fun c_12 => ?_)
    · have hf := if_f hf c_12
      refine lv_iconst (v := (0 : Int32)) hx hb dX5_area_37 (by decide) ?_
      exact hJ_13 _ σ_11 H locs ls hf I (lv_sub hl [0, 1, 2, 3] rfl)
    · have hf := if_t hf c_12
      refine lv_iconst (v := (1 : Int32)) hx hb dX5_area_33 (by decide) ?_
      refine lv_goto (tgt := 38) hx hb dX5_area_34 (by decide) ?_
      exact hJ_13 _ σ_11 H locs ls hf I (lv_sub hl [0, 1, 2, 3] rfl)
  refine lv_if_eq (tgt := 19) hx hb dX5_area_6 (by decide) (fun c_4 => ?_) (fun c_4 => ?_)
  · have hf := if_t hf c_4
    refine lv_iconst (v := (1 : Int32)) hx hb dX5_area_19 (by decide) ?_
    refine lv_goto (tgt := 24) hx hb dX5_area_20 (by decide) ?_
    exact hJ_5 _ σ_2 H locs ls hf I (lv_sub hl [0, 1, 2, 3] rfl)
  · have hf := if_f hf c_4
    refine lv_iload_n hx hb dX5_area_9 rfl (lv_at hl 3 rfl) ?_
    refine lv_iconst (v := (1 : Int32)) hx hb dX5_area_10 (by decide) ?_
    refine lv_bipush (v := (50 : Int32)) hx hb dX5_area_11 (by decide) ?_
    obtain ⟨r_6, σ_7, hg_8, hf⟩ := bd_some hf
    refine g_csi (av := [.int a3, .int (1 : Int32), .int (50 : Int32)]) (rest := [.ref (ad E 39)]) C I AA.new (c_X5_in l E o a3 (1 : Int32) (50 : Int32) σ_2 hg_8) (cwS 3 C.1.2.2.2.2 gX5_area_X5_in rfl rfl rfl (by decide +kernel) ⟨Nat.le_of_ble_eq_true rfl, Nat.le_of_ble_eq_true rfl⟩) rfl hl.1 rfl (Nat.le_of_ble_eq_true rfl) ⟨Nat.le_of_ble_eq_true rfl, Nat.le_of_ble_eq_true rfl⟩ dX5_area_13 (fun H locs I => ?_)
    refine lv_if_ne (tgt := 23) hx hb dX5_area_16 (by decide) (fun c_9 => ?_) (fun c_9 => ?_)
    · have hf := if_f hf c_9
      refine lv_iconst (v := (0 : Int32)) hx hb dX5_area_23 (by decide) ?_
      exact hJ_5 _ σ_7 H locs ls hf I (lv_sub hl [0, 1, 2, 3] rfl)
    · have hf := if_t hf c_9
      refine lv_iconst (v := (1 : Int32)) hx hb dX5_area_19 (by decide) ?_
      refine lv_goto (tgt := 24) hx hb dX5_area_20 (by decide) ?_
      exact hJ_5 _ σ_7 H locs ls hf I (lv_sub hl [0, 1, 2, 3] rfl)
abbrev rm_X5_unit : Room := { frames := 2, cells := 0, slots := 0, locals := 48 }
abbrev WW_X5_unit (p : Program) (l : Launch) (e : Env) (s : State) (m : MethodId) (args : Array Value) (below : List Frame) (meth : Method) (c : Code) (E : En) (o : Int64) (res : Int32 × St) (H : Heap) (locs : List Loc) (cells slots : Nat) (g : JFrame) : Prop := W p l e (headSpec wsX5_unit rm_X5_unit).room s m args below meth c H locs cells slots (MQ below (Qi E s.heap.size o res.1 res.2) args s 0 0 (AA E s.heap.size)) g
theorem k_X5_unit_86 : Cond.fieldLink RX5 86 "DaySimulateModel" "units" "I" ∈ wsX5_unit := by decide +kernel
theorem k_X5_unit_32 : Cond.fieldLink RX5 32 "DaySimulateModel" "stands" "[I" ∈ wsX5_unit := by decide +kernel
theorem k_X5_unit_76 : Cond.fieldLink RX5 76 "DaySimulateModel" "stations" "I" ∈ wsX5_unit := by decide +kernel
theorem in_X5_unit_X5 : ∀ w ∈ wsX50, w ∈ wsX5_unit := by decide +kernel
set_option maxHeartbeats 4000000 in
set_option maxRecDepth 100000 in
theorem lp_X5_unit_63 {l : Launch} {p : Program} {e : Env} {s : State} {m : MethodId} {args : Array Value} {below : List Frame} {meth : Method} {c : Code} {E : En} {o : Int64} {res : Int32 × St} (C : Cx p c cX5_unit 4 s m args wsX5_unit RX5 E) (hr : meth.sig.returnType = (some .int)) (hlocks : meth.locks = false) (b1 : Int32) (K89 : St → Option (Int32 × St)) (hK89 : ∀  (σ : St) (H : Heap) (locs : List Loc) (ls : Array Slot), K89 σ = some res → Iv E (AA E s.heap.size) s.heap o σ H locs → lv_has ls 4 [(0, .ref (ad E 39))] → WW_X5_unit p l e s m args below meth c E o res H locs 0 0 (F0 m 89 ls [])) :
    ∀ (n : Nat) (v3 : Int32) (σ : St) (H : Heap) (locs : List Loc) (ls : Array Slot), f_X5_unit_L63 b1 K89 n v3 σ = some res → Iv E (AA E s.heap.size) s.heap o σ H locs → lv_has ls 4 [(0, .ref (ad E 39)), (1, .int b1), (3, .int v3)] → WW_X5_unit p l e s m args below meth c E o res H locs 0 0 (F0 m 63 ls []) := by
  have hx := C.1.1
  have hb := C.1.2.1
  intro n
  induction n with
  | zero => intro v3 σ H locs ls hf _ _; cases (show (none : Option (Int32 × St)) = some res from hf)
  | succ n ih =>
    intro v3 σ H locs ls hf I hl
    rw [f_X5_unit_L63] at hf
    refine lv_iload_n hx hb dX5_unit_63 rfl (lv_at hl 2 rfl) ?_
    refine lv_iconst (v := (4 : Int32)) hx hb dX5_unit_64 (by decide) ?_
    refine lv_icmp_ge (tgt := 89) hx hb dX5_unit_65 (by decide) (fun c_24 => ?_) (fun c_24 => ?_)
    · have hf := if_t hf c_24
      exact hK89  σ H locs ls hf I (lv_sub hl [0] rfl)
    · have hf := if_f hf c_24
      refine lv_aload_n hx hb dX5_unit_68 rfl (lv_at hl 0 rfl) ?_
      refine g_get (k := 39) (v := .ref (ad E 45)) C I (by decide) (gk_39 E o _) rfl in_X5_unit_X5 11 (by decide) (C.1.2.2.2.2 _ k_X5_unit_32) rfl dX5_unit_69 ?_
      refine lv_bipush (v := (12 : Int32)) hx hb dX5_unit_72 (by decide) ?_
      refine lv_iload_n hx hb dX5_unit_74 rfl (lv_at hl 2 rfl) ?_
      refine lv_imul hx hb dX5_unit_75 ?_
      refine lv_aload_n hx hb dX5_unit_76 rfl (lv_at hl 0 rfl) ?_
      refine g_get (k := 39) (v := .int (σ 39 10)) C I (by decide) (gk_39 E o _) rfl in_X5_unit_X5 10 (by decide) (C.1.2.2.2.2 _ k_X5_unit_86) rfl dX5_unit_77 ?_
      refine lv_iadd hx hb dX5_unit_80 ?_
      refine lv_iload_n hx hb dX5_unit_81 rfl (lv_at hl 1 rfl) ?_
      obtain ⟨h_25, hf⟩ := ck_some hf
      refine g_iast (k := 45) C I (by decide) (gk_45 E o) (ixb_in h_25) dX5_unit_82 (fun H locs σ_26 eσ_26 I => ?_)
      have hf := lt_at hf eσ_26
      obtain ⟨x_27, ex_27⟩ : ∃ y : Int32, y = (v3 + (1 : Int32)) := ⟨_, rfl⟩
      have hf := lt_at hf ex_27
      refine lv_iinc (v := x_27) (lv' := [(3, .int x_27), (0, .ref (ad E 39)), (1, .int b1)]) hx hb dX5_unit_83 hl (k := 2) rfl (by rw [ex_27]; rfl) (by decide) rfl (fun ls hl => ?_)
      refine lv_goto (tgt := 63) hx hb dX5_unit_86 (by decide) ?_
      exact ih x_27 σ_26 H locs ls hf I (lv_sub hl [1, 2, 0] rfl)
set_option maxHeartbeats 4000000 in
set_option maxRecDepth 100000 in
theorem c_X5_unit (l : Launch) (E : En) (o : Int64) (a1 : Int32) (σ : St) {res : Int32 × St} (hf : f_X5_unit a1 σ = some res) : CI l yX5_unit wsX5_unit rm_X5_unit E [.ref (ad E 39), .int a1] o σ res.1 res.2 := by
  intro sz
  refine Met.ofW (cc := cX5_unit) (maxL := 4) (ret := (some .int)) (by decide) rfl ?_
  intro p e s m args below meth c s₁ B hml hv
  obtain ⟨rfl, hv⟩ := hv
  obtain ⟨rfl, hK, I⟩ := hv.start
  have C : Cx p c cX5_unit 4 s m _ wsX5_unit RX5 E := ⟨⟨B.exec, B.bytes, hml, findClass_of_methodNamed B.named, atoms_spec (ws := wsX5_unit) B.pre⟩, hK⟩
  have hx := C.1.1
  have hb := C.1.2.1
  have hr := B.returns
  have hlocks := B.notSynchronized
  clear hv
  have hl := lv_entry ([.ref (ad E 39), .int a1]) (n := 4) (Nat.le_of_ble_eq_true rfl)
  rw [lg_entry_eq]
  generalize (lg_sl ([.ref (ad E 39), .int a1]) ++ List.replicate (4 - (lg_sl ([.ref (ad E 39), .int a1])).length) Slot.unset).toArray = ls at hl ⊢
  have hl : lv_has ls 4 [(0, .ref (ad E 39)), (1, .int a1)] := hl
  generalize ([.ref (ad E 39), .int a1] : List Value).toArray = args at C ⊢
  refine g_begin I (fun H locs I => ?_)
  rw [f_X5_unit] at hf
  refine lv_iload_n hx hb dX5_unit_0 rfl (lv_at hl 1 rfl) ?_
  refine lv_iconst (v := (0 : Int32)) hx hb dX5_unit_1 (by decide) ?_
  refine lv_aload_n hx hb dX5_unit_2 rfl (lv_at hl 0 rfl) ?_
  refine g_get (k := 39) (v := .int (σ 39 3)) C I (by decide) (gk_39 E o _) rfl in_X5_unit_X5 3 (by decide) (C.1.2.2.2.2 _ k_X5_unit_76) rfl dX5_unit_3 ?_
  refine lv_iconst (v := (1 : Int32)) hx hb dX5_unit_6 (by decide) ?_
  refine lv_isub hx hb dX5_unit_7 ?_
  obtain ⟨r_1, σ_2, hg_3, hf⟩ := bd_some hf
  refine g_csi (av := [.int a1, .int (0 : Int32), .int ((σ 39 3) - (1 : Int32))]) (rest := []) C I AA.new (c_X5_in l E o a1 (0 : Int32) (((σ 39 3) - (1 : Int32))) σ hg_3) (cwS 3 C.1.2.2.2.2 gX5_unit_X5_in rfl rfl rfl (by decide +kernel) ⟨Nat.le_of_ble_eq_true rfl, Nat.le_of_ble_eq_true rfl⟩) rfl hl.1 rfl (Nat.le_of_ble_eq_true rfl) ⟨Nat.le_of_ble_eq_true rfl, Nat.le_of_ble_eq_true rfl⟩ dX5_unit_8 (fun H locs I => ?_)
  obtain ⟨J_5, eJ_5, hf⟩ := lt_split hf
  have hJ_5 : ∀ (y_6 : Int32) (σ_7 : St) (H : Heap) (locs : List Loc) (ls : Array Slot), J_5 y_6 σ_7 = some res → Iv E (AA E s.heap.size) s.heap o σ_7 H locs → lv_has ls 4 [(0, .ref (ad E 39)), (1, .int a1)] → WW_X5_unit p l e s m args below meth c E o res H locs 0 0 (F0 m 19 ls [.int y_6]) := by
    intro y_6 σ_7 H locs ls hf I hl
    rw [eJ_5] at hf
    refine lv_istore_n (lv' := [(2, .int y_6), (0, .ref (ad E 39)), (1, .int a1)]) hx hb dX5_unit_19 rfl hl (by decide) rfl (fun ls hl => ?_)
    refine lv_aload_n hx hb dX5_unit_20 rfl (lv_at hl 1 rfl) ?_
    refine lv_iload_n hx hb dX5_unit_21 rfl (lv_at hl 0 rfl) ?_
    refine lv_iload_n hx hb dX5_unit_22 rfl (lv_at hl 0 rfl) ?_
    obtain ⟨J_9, eJ_9, hf⟩ := lt_split hf
    have hJ_9 : ∀ (y_14 : Int32) (σ_15 : St) (H : Heap) (locs : List Loc) (ls : Array Slot), J_9 y_14 σ_15 = some res → Iv E (AA E s.heap.size) s.heap o σ_15 H locs → lv_has ls 4 [(0, .ref (ad E 39)), (1, .int a1)] → WW_X5_unit p l e s m args below meth c E o res H locs 0 0 (F0 m 39 ls [.int y_14, .int y_6, .ref (ad E 39)]) := by
      intro y_14 σ_15 H locs ls hf I hl
      rw [eJ_9] at hf
      refine lv_aload_n hx hb dX5_unit_39 rfl (lv_at hl 0 rfl) ?_
      refine g_get (k := 39) (v := .int (σ_15 39 10)) C I (by decide) (gk_39 E o _) rfl in_X5_unit_X5 10 (by decide) (C.1.2.2.2.2 _ k_X5_unit_86) rfl dX5_unit_40 ?_
      refine lv_bipush (v := (12 : Int32)) hx hb dX5_unit_43 (by decide) ?_
      obtain ⟨J_17, eJ_17, hf⟩ := lt_split hf
      have hJ_17 : ∀ (y_18 : Int32) (σ_19 : St) (H : Heap) (locs : List Loc) (ls : Array Slot), J_17 y_18 σ_19 = some res → Iv E (AA E s.heap.size) s.heap o σ_19 H locs → lv_has ls 4 [(0, .ref (ad E 39)), (1, .int a1)] → WW_X5_unit p l e s m args below meth c E o res H locs 0 0 (F0 m 53 ls [.int y_18, .int y_14, .int y_6, .ref (ad E 39)]) := by
        intro y_18 σ_19 H locs ls hf I hl
        rw [eJ_17] at hf
        obtain ⟨r_20, σ_21, hg_22, hf⟩ := bd_some hf
        refine g_cvi (av := [.int y_6, .int y_14, .int y_18]) (rest := []) (k := 39) C I AA.new (c_X5_throwing l E o y_6 y_14 y_18 σ_19 hg_22) (cwV 3 C.1.2.2.2.2 gX5_unit_X5_throwing rfl rfl rfl (by decide +kernel) ⟨Nat.le_of_ble_eq_true rfl, Nat.le_of_ble_eq_true rfl⟩) (by decide) (gk_39 E o _) rfl rfl rfl hl.1 rfl (Nat.le_of_ble_eq_true rfl) ⟨Nat.le_of_ble_eq_true rfl, Nat.le_of_ble_eq_true rfl⟩ dX5_unit_53 (fun H locs I => ?_)
        refine lv_if_eq (tgt := 61) hx hb dX5_unit_56 (by decide) (fun c_23 => ?_) (fun c_23 => ?_)
        · have hf := if_t hf c_23
          refine lv_iconst (v := (0 : Int32)) hx hb dX5_unit_61 (by decide) ?_
          refine lv_istore_n (lv' := [(3, .int (0 : Int32)), (0, .ref (ad E 39)), (1, .int a1)]) hx hb dX5_unit_62 rfl hl (by decide) rfl (fun ls hl => ?_)
          refine lp_X5_unit_63 C hr hlocks a1 _ ?_ _ (0 : Int32) σ_21 H locs ls hf I (lv_sub hl [1, 2, 0] rfl)
          · intro  σ_28 H locs ls hf I hl
            refine lv_aload_n hx hb dX5_unit_89 rfl (lv_at hl 0 rfl) ?_
            refine lv_dup hx hb dX5_unit_90 rfl ?_
            refine g_get (k := 39) (v := .int (σ_28 39 10)) C I (by decide) (gk_39 E o _) rfl in_X5_unit_X5 10 (by decide) (C.1.2.2.2.2 _ k_X5_unit_86) rfl dX5_unit_91 ?_
            refine lv_iconst (v := (1 : Int32)) hx hb dX5_unit_94 (by decide) ?_
            refine lv_iadd hx hb dX5_unit_95 ?_
            refine g_put (k := 39) (v := ((σ_28 39 10) + (1 : Int32))) C I (by decide) (gk_39 E o) rfl in_X5_unit_X5 tyX5 tyX5_ok nmX5 10 (by decide) (C.1.2.2.2.2 _ k_X5_unit_86) rfl (by decide +kernel) (Nat.le_of_ble_eq_true rfl) rfl dX5_unit_96 (fun H locs σ_29 eσ_29 I => ?_)
            have hf := lt_at hf eσ_29
            refine lv_aload_n hx hb dX5_unit_99 rfl (lv_at hl 0 rfl) ?_
            refine g_get (k := 39) (v := .int (σ_29 39 10)) C I (by decide) (gk_39 E o _) rfl in_X5_unit_X5 10 (by decide) (C.1.2.2.2.2 _ k_X5_unit_86) rfl dX5_unit_100 ?_
            refine lv_iconst (v := (1 : Int32)) hx hb dX5_unit_103 (by decide) ?_
            refine lv_isub hx hb dX5_unit_104 ?_
            exact g_iret C I hr hlocks hf dX5_unit_105
        · have hf := if_f hf c_23
          refine lv_iconst (v := (0 : Int32)) hx hb dX5_unit_59 (by decide) ?_
          exact g_iret C I hr hlocks hf dX5_unit_60
      refine lv_icmp_ne (tgt := 52) hx hb dX5_unit_45 (by decide) (fun c_16 => ?_) (fun c_16 => ?_)
      · have hf := if_f hf c_16
        refine lv_iconst (v := (0 : Int32)) hx hb dX5_unit_52 (by decide) ?_
        exact hJ_17 _ σ_15 H locs ls hf I (lv_sub hl [0, 1] rfl)
      · have hf := if_t hf c_16
        refine lv_iconst (v := (1 : Int32)) hx hb dX5_unit_48 (by decide) ?_
        refine lv_goto (tgt := 53) hx hb dX5_unit_49 (by decide) ?_
        exact hJ_17 _ σ_15 H locs ls hf I (lv_sub hl [0, 1] rfl)
    refine lv_if_ne (tgt := 38) hx hb dX5_unit_23 (by decide) (fun c_8 => ?_) (fun c_8 => ?_)
    · have hf := if_f hf c_8
      refine lv_iconst (v := (0 : Int32)) hx hb dX5_unit_38 (by decide) ?_
      exact hJ_9 _ σ_7 H locs ls hf I (lv_sub hl [1, 2] rfl)
    · have hf := if_t hf c_8
      refine lv_aload_n hx hb dX5_unit_26 rfl (lv_at hl 1 rfl) ?_
      refine lv_iload_n hx hb dX5_unit_27 rfl (lv_at hl 2 rfl) ?_
      obtain ⟨r_10, σ_11, hg_12, hf⟩ := bd_some hf
      refine g_cvi (av := [.int a1]) (rest := [.int y_6, .ref (ad E 39)]) (k := 39) C I AA.new (c_X5_isFull l E o a1 σ_7 hg_12) (cwV 1 C.1.2.2.2.2 gX5_unit_X5_isFull rfl rfl rfl (by decide +kernel) ⟨Nat.le_of_ble_eq_true rfl, Nat.le_of_ble_eq_true rfl⟩) (by decide) (gk_39 E o _) rfl rfl rfl hl.1 rfl (Nat.le_of_ble_eq_true rfl) ⟨Nat.le_of_ble_eq_true rfl, Nat.le_of_ble_eq_true rfl⟩ dX5_unit_28 (fun H locs I => ?_)
      refine lv_if_eq (tgt := 38) hx hb dX5_unit_31 (by decide) (fun c_13 => ?_) (fun c_13 => ?_)
      · have hf := if_t hf c_13
        refine lv_iconst (v := (0 : Int32)) hx hb dX5_unit_38 (by decide) ?_
        exact hJ_9 _ σ_11 H locs ls hf I (lv_sub hl [1, 2] rfl)
      · have hf := if_f hf c_13
        refine lv_iconst (v := (1 : Int32)) hx hb dX5_unit_34 (by decide) ?_
        refine lv_goto (tgt := 39) hx hb dX5_unit_35 (by decide) ?_
        exact hJ_9 _ σ_11 H locs ls hf I (lv_sub hl [1, 2] rfl)
  refine lv_if_ne (tgt := 18) hx hb dX5_unit_11 (by decide) (fun c_4 => ?_) (fun c_4 => ?_)
  · have hf := if_f hf c_4
    refine lv_iconst (v := (0 : Int32)) hx hb dX5_unit_18 (by decide) ?_
    exact hJ_5 _ σ_2 H locs ls hf I (lv_sub hl [0, 1] rfl)
  · have hf := if_t hf c_4
    refine lv_iconst (v := (1 : Int32)) hx hb dX5_unit_14 (by decide) ?_
    refine lv_goto (tgt := 19) hx hb dX5_unit_15 (by decide) ?_
    exact hJ_5 _ σ_2 H locs ls hf I (lv_sub hl [0, 1] rfl)
abbrev rm_X5_change : Room := { frames := 1, cells := 0, slots := 0, locals := 25 }
abbrev WW_X5_change (p : Program) (l : Launch) (e : Env) (s : State) (m : MethodId) (args : Array Value) (below : List Frame) (meth : Method) (c : Code) (E : En) (o : Int64) (res : Int32 × St) (H : Heap) (locs : List Loc) (cells slots : Nat) (g : JFrame) : Prop := W p l e (headSpec wsX5_change rm_X5_change).room s m args below meth c H locs cells slots (MQ below (Qv E s.heap.size o res.2) args s 0 0 (AA E s.heap.size)) g
theorem k_X5_change_76 : Cond.fieldLink RX5 76 "DaySimulateModel" "stations" "I" ∈ wsX5_change := by decide +kernel
theorem k_X5_change_86 : Cond.fieldLink RX5 86 "DaySimulateModel" "units" "I" ∈ wsX5_change := by decide +kernel
theorem k_X5_change_32 : Cond.fieldLink RX5 32 "DaySimulateModel" "stands" "[I" ∈ wsX5_change := by decide +kernel
theorem in_X5_change_X5 : ∀ w ∈ wsX50, w ∈ wsX5_change := by decide +kernel
set_option maxHeartbeats 4000000 in
set_option maxRecDepth 100000 in
theorem c_X5_change (l : Launch) (E : En) (o : Int64) (a1 : Int32) (a2 : Int32) (a3 : Int32) (σ : St) {res : Int32 × St} (hf : f_X5_change a1 a2 a3 σ = some res) : CV l yX5_change wsX5_change rm_X5_change E [.ref (ad E 39), .int a1, .int a2, .int a3] o σ res.2 := by
  intro sz
  refine Met.ofW (cc := cX5_change) (maxL := 5) (ret := none) (by decide) rfl ?_
  intro p e s m args below meth c s₁ B hml hv
  obtain ⟨rfl, hv⟩ := hv
  obtain ⟨rfl, hK, I⟩ := hv.start
  have C : Cx p c cX5_change 5 s m _ wsX5_change RX5 E := ⟨⟨B.exec, B.bytes, hml, findClass_of_methodNamed B.named, atoms_spec (ws := wsX5_change) B.pre⟩, hK⟩
  have hx := C.1.1
  have hb := C.1.2.1
  have hr := B.returns
  have hlocks := B.notSynchronized
  clear hv
  have hl := lv_entry ([.ref (ad E 39), .int a1, .int a2, .int a3]) (n := 5) (Nat.le_of_ble_eq_true rfl)
  rw [lg_entry_eq]
  generalize (lg_sl ([.ref (ad E 39), .int a1, .int a2, .int a3]) ++ List.replicate (5 - (lg_sl ([.ref (ad E 39), .int a1, .int a2, .int a3])).length) Slot.unset).toArray = ls at hl ⊢
  have hl : lv_has ls 5 [(0, .ref (ad E 39)), (1, .int a1), (2, .int a2), (3, .int a3)] := hl
  generalize ([.ref (ad E 39), .int a1, .int a2, .int a3] : List Value).toArray = args at C ⊢
  refine g_begin I (fun H locs I => ?_)
  rw [f_X5_change] at hf
  refine lv_iload_n hx hb dX5_change_0 rfl (lv_at hl 1 rfl) ?_
  refine lv_iconst (v := (1 : Int32)) hx hb dX5_change_1 (by decide) ?_
  refine lv_iconst (v := (3 : Int32)) hx hb dX5_change_2 (by decide) ?_
  obtain ⟨r_1, σ_2, hg_3, hf⟩ := bd_some hf
  refine g_csi (av := [.int a1, .int (1 : Int32), .int (3 : Int32)]) (rest := []) C I AA.new (c_X5_in l E o a1 (1 : Int32) (3 : Int32) σ hg_3) (cwS 3 C.1.2.2.2.2 gX5_change_X5_in rfl rfl rfl (by decide +kernel) ⟨Nat.le_of_ble_eq_true rfl, Nat.le_of_ble_eq_true rfl⟩) rfl hl.1 rfl (Nat.le_of_ble_eq_true rfl) ⟨Nat.le_of_ble_eq_true rfl, Nat.le_of_ble_eq_true rfl⟩ dX5_change_3 (fun H locs I => ?_)
  obtain ⟨J_5, eJ_5, hf⟩ := lt_split hf
  have hJ_5 : ∀ (y_14 : Int32) (σ_15 : St) (H : Heap) (locs : List Loc) (ls : Array Slot), J_5 y_14 σ_15 = some res → Iv E (AA E s.heap.size) s.heap o σ_15 H locs → lv_has ls 5 [(0, .ref (ad E 39)), (1, .int a1), (2, .int a2), (3, .int a3)] → WW_X5_change p l e s m args below meth c E o res H locs 0 0 (F0 m 42 ls [.int y_14]) := by
    intro y_14 σ_15 H locs ls hf I hl
    rw [eJ_5] at hf
    refine lv_istore (lv' := [(4, .int y_14), (0, .ref (ad E 39)), (1, .int a1), (2, .int a2), (3, .int a3)]) hx hb dX5_change_42 hl (by decide) rfl (fun ls hl => ?_)
    refine lv_aload_n hx hb dX5_change_44 rfl (lv_at hl 1 rfl) ?_
    refine lv_iload hx hb dX5_change_45 (lv_at hl 0 rfl) ?_
    refine lv_iload hx hb dX5_change_47 (lv_at hl 0 rfl) ?_
    obtain ⟨J_17, eJ_17, hf⟩ := lt_split hf
    have hJ_17 : ∀ (y_23 : Int32) (σ_24 : St) (H : Heap) (locs : List Loc) (ls : Array Slot), J_17 y_23 σ_24 = some res → Iv E (AA E s.heap.size) s.heap o σ_24 H locs → lv_has ls 5 [(0, .ref (ad E 39)), (1, .int a1), (2, .int a2), (3, .int a3)] → WW_X5_change p l e s m args below meth c E o res H locs 0 0 (F0 m 72 ls [.int y_23, .int y_14, .ref (ad E 39)]) := by
      intro y_23 σ_24 H locs ls hf I hl
      rw [eJ_17] at hf
      refine lv_iconst (v := (0 : Int32)) hx hb dX5_change_72 (by decide) ?_
      obtain ⟨r_25, σ_26, hg_27, hf⟩ := bd_some hf
      refine g_cvi (av := [.int y_14, .int y_23, .int (0 : Int32)]) (rest := []) (k := 39) C I AA.new (c_X5_throwing l E o y_14 y_23 (0 : Int32) σ_24 hg_27) (cwV 3 C.1.2.2.2.2 gX5_change_X5_throwing rfl rfl rfl (by decide +kernel) ⟨Nat.le_of_ble_eq_true rfl, Nat.le_of_ble_eq_true rfl⟩) (by decide) (gk_39 E o _) rfl rfl rfl hl.1 rfl (Nat.le_of_ble_eq_true rfl) ⟨Nat.le_of_ble_eq_true rfl, Nat.le_of_ble_eq_true rfl⟩ dX5_change_73 (fun H locs I => ?_)
      refine lv_if_eq (tgt := 80) hx hb dX5_change_76 (by decide) (fun c_28 => ?_) (fun c_28 => ?_)
      · have hf := if_t hf c_28
        refine lv_aload_n hx hb dX5_change_80 rfl (lv_at hl 0 rfl) ?_
        refine g_get (k := 39) (v := .ref (ad E 45)) C I (by decide) (gk_39 E o _) rfl in_X5_change_X5 11 (by decide) (C.1.2.2.2.2 _ k_X5_change_32) rfl dX5_change_81 ?_
        refine lv_bipush (v := (12 : Int32)) hx hb dX5_change_84 (by decide) ?_
        refine lv_iload_n hx hb dX5_change_86 rfl (lv_at hl 1 rfl) ?_
        refine lv_imul hx hb dX5_change_87 ?_
        refine lv_iload_n hx hb dX5_change_88 rfl (lv_at hl 2 rfl) ?_
        refine lv_iadd hx hb dX5_change_89 ?_
        refine lv_iload_n hx hb dX5_change_90 rfl (lv_at hl 3 rfl) ?_
        obtain ⟨h_29, hf⟩ := ck_some hf
        refine g_iast (k := 45) C I (by decide) (gk_45 E o) (ixb_in h_29) dX5_change_91 (fun H locs σ_30 eσ_30 I => ?_)
        have hf := lt_at hf eσ_30
        exact g_vret C I hr hlocks hf dX5_change_92
      · have hf := if_f hf c_28
        exact g_vret C I hr hlocks hf dX5_change_79
    refine lv_if_ne (tgt := 71) hx hb dX5_change_49 (by decide) (fun c_16 => ?_) (fun c_16 => ?_)
    · have hf := if_f hf c_16
      refine lv_iconst (v := (0 : Int32)) hx hb dX5_change_71 (by decide) ?_
      exact hJ_17 _ σ_15 H locs ls hf I (lv_sub hl [1, 2, 3, 4] rfl)
    · have hf := if_t hf c_16
      refine lv_iload_n hx hb dX5_change_52 rfl (lv_at hl 4 rfl) ?_
      refine lv_if_lt (tgt := 71) hx hb dX5_change_53 (by decide) (fun c_18 => ?_) (fun c_18 => ?_)
      · have hf := if_t hf c_18
        refine lv_iconst (v := (0 : Int32)) hx hb dX5_change_71 (by decide) ?_
        exact hJ_17 _ σ_15 H locs ls hf I (lv_sub hl [1, 2, 3, 4] rfl)
      · have hf := if_f hf c_18
        refine lv_aload_n hx hb dX5_change_56 rfl (lv_at hl 1 rfl) ?_
        refine lv_iload_n hx hb dX5_change_57 rfl (lv_at hl 2 rfl) ?_
        refine lv_iload_n hx hb dX5_change_58 rfl (lv_at hl 4 rfl) ?_
        refine lv_iload_n hx hb dX5_change_59 rfl (lv_at hl 3 rfl) ?_
        obtain ⟨r_19, σ_20, hg_21, hf⟩ := bd_some hf
        refine g_cvi (av := [.int a1, .int a3, .int a2]) (rest := [.int y_14, .ref (ad E 39)]) (k := 39) C I AA.new (c_X5_at l E o a1 a3 a2 σ_15 hg_21) (cwV 3 C.1.2.2.2.2 gX5_change_X5_at rfl rfl rfl (by decide +kernel) ⟨Nat.le_of_ble_eq_true rfl, Nat.le_of_ble_eq_true rfl⟩) (by decide) (gk_39 E o _) rfl rfl rfl hl.1 rfl (Nat.le_of_ble_eq_true rfl) ⟨Nat.le_of_ble_eq_true rfl, Nat.le_of_ble_eq_true rfl⟩ dX5_change_60 (fun H locs I => ?_)
        refine lv_iconst (v := (4 : Int32)) hx hb dX5_change_63 (by decide) ?_
        refine lv_icmp_lt (tgt := 71) hx hb dX5_change_64 (by decide) (fun c_22 => ?_) (fun c_22 => ?_)
        · have hf := if_t hf c_22
          refine lv_iconst (v := (0 : Int32)) hx hb dX5_change_71 (by decide) ?_
          exact hJ_17 _ σ_20 H locs ls hf I (lv_sub hl [1, 2, 3, 4] rfl)
        · have hf := if_f hf c_22
          refine lv_iconst (v := (1 : Int32)) hx hb dX5_change_67 (by decide) ?_
          refine lv_goto (tgt := 72) hx hb dX5_change_68 (by decide) ?_
          exact hJ_17 _ σ_20 H locs ls hf I (lv_sub hl [1, 2, 3, 4] rfl)
  refine lv_if_eq (tgt := 37) hx hb dX5_change_6 (by decide) (fun c_4 => ?_) (fun c_4 => ?_)
  · have hf := if_t hf c_4
    refine lv_iconst (v := (1 : Int32)) hx hb dX5_change_37 (by decide) ?_
    refine lv_goto (tgt := 42) hx hb dX5_change_38 (by decide) ?_
    exact hJ_5 _ σ_2 H locs ls hf I (lv_sub hl [0, 1, 2, 3] rfl)
  · have hf := if_f hf c_4
    refine lv_iload_n hx hb dX5_change_9 rfl (lv_at hl 2 rfl) ?_
    refine lv_iconst (v := (0 : Int32)) hx hb dX5_change_10 (by decide) ?_
    refine lv_aload_n hx hb dX5_change_11 rfl (lv_at hl 0 rfl) ?_
    refine g_get (k := 39) (v := .int (σ_2 39 10)) C I (by decide) (gk_39 E o _) rfl in_X5_change_X5 10 (by decide) (C.1.2.2.2.2 _ k_X5_change_86) rfl dX5_change_12 ?_
    refine lv_iconst (v := (1 : Int32)) hx hb dX5_change_15 (by decide) ?_
    refine lv_isub hx hb dX5_change_16 ?_
    obtain ⟨r_6, σ_7, hg_8, hf⟩ := bd_some hf
    refine g_csi (av := [.int a2, .int (0 : Int32), .int ((σ_2 39 10) - (1 : Int32))]) (rest := []) C I AA.new (c_X5_in l E o a2 (0 : Int32) (((σ_2 39 10) - (1 : Int32))) σ_2 hg_8) (cwS 3 C.1.2.2.2.2 gX5_change_X5_in rfl rfl rfl (by decide +kernel) ⟨Nat.le_of_ble_eq_true rfl, Nat.le_of_ble_eq_true rfl⟩) rfl hl.1 rfl (Nat.le_of_ble_eq_true rfl) ⟨Nat.le_of_ble_eq_true rfl, Nat.le_of_ble_eq_true rfl⟩ dX5_change_17 (fun H locs I => ?_)
    refine lv_if_eq (tgt := 37) hx hb dX5_change_20 (by decide) (fun c_9 => ?_) (fun c_9 => ?_)
    · have hf := if_t hf c_9
      refine lv_iconst (v := (1 : Int32)) hx hb dX5_change_37 (by decide) ?_
      refine lv_goto (tgt := 42) hx hb dX5_change_38 (by decide) ?_
      exact hJ_5 _ σ_7 H locs ls hf I (lv_sub hl [0, 1, 2, 3] rfl)
    · have hf := if_f hf c_9
      refine lv_iload_n hx hb dX5_change_23 rfl (lv_at hl 3 rfl) ?_
      refine lv_iconst (v := (-1 : Int32)) hx hb dX5_change_24 (by decide) ?_
      refine lv_aload_n hx hb dX5_change_25 rfl (lv_at hl 0 rfl) ?_
      refine g_get (k := 39) (v := .int (σ_7 39 3)) C I (by decide) (gk_39 E o _) rfl in_X5_change_X5 3 (by decide) (C.1.2.2.2.2 _ k_X5_change_76) rfl dX5_change_26 ?_
      refine lv_iconst (v := (1 : Int32)) hx hb dX5_change_29 (by decide) ?_
      refine lv_isub hx hb dX5_change_30 ?_
      obtain ⟨r_10, σ_11, hg_12, hf⟩ := bd_some hf
      refine g_csi (av := [.int a3, .int (-1 : Int32), .int ((σ_7 39 3) - (1 : Int32))]) (rest := []) C I AA.new (c_X5_in l E o a3 (-1 : Int32) (((σ_7 39 3) - (1 : Int32))) σ_7 hg_12) (cwS 3 C.1.2.2.2.2 gX5_change_X5_in rfl rfl rfl (by decide +kernel) ⟨Nat.le_of_ble_eq_true rfl, Nat.le_of_ble_eq_true rfl⟩) rfl hl.1 rfl (Nat.le_of_ble_eq_true rfl) ⟨Nat.le_of_ble_eq_true rfl, Nat.le_of_ble_eq_true rfl⟩ dX5_change_31 (fun H locs I => ?_)
      refine lv_if_ne (tgt := 41) hx hb dX5_change_34 (by decide) (fun c_13 => ?_) (fun c_13 => ?_)
      · have hf := if_f hf c_13
        refine lv_iconst (v := (0 : Int32)) hx hb dX5_change_41 (by decide) ?_
        exact hJ_5 _ σ_11 H locs ls hf I (lv_sub hl [0, 1, 2, 3] rfl)
      · have hf := if_t hf c_13
        refine lv_iconst (v := (1 : Int32)) hx hb dX5_change_37 (by decide) ?_
        refine lv_goto (tgt := 42) hx hb dX5_change_38 (by decide) ?_
        exact hJ_5 _ σ_11 H locs ls hf I (lv_sub hl [0, 1, 2, 3] rfl)
abbrev rm_X5_rules : Room := { frames := 1, cells := 0, slots := 0, locals := 23 }
abbrev WW_X5_rules (p : Program) (l : Launch) (e : Env) (s : State) (m : MethodId) (args : Array Value) (below : List Frame) (meth : Method) (c : Code) (E : En) (o : Int64) (res : Int32 × St) (H : Heap) (locs : List Loc) (cells slots : Nat) (g : JFrame) : Prop := W p l e (headSpec wsX5_rules rm_X5_rules).room s m args below meth c H locs cells slots (MQ below (Qv E s.heap.size o res.2) args s 0 0 (AA E s.heap.size)) g
theorem k_X5_rules_13 : Cond.fieldLink RX5 13 "DaySimulateModel" "mark" "I" ∈ wsX5_rules := by decide +kernel
theorem k_X5_rules_7 : Cond.fieldLink RX5 7 "DaySimulateModel" "pace" "I" ∈ wsX5_rules := by decide +kernel
theorem in_X5_rules_X5 : ∀ w ∈ wsX50, w ∈ wsX5_rules := by decide +kernel
set_option maxHeartbeats 4000000 in
set_option maxRecDepth 100000 in
theorem c_X5_rules (l : Launch) (E : En) (o : Int64) (a1 : Int32) (a2 : Int32) (σ : St) {res : Int32 × St} (hf : f_X5_rules a1 a2 σ = some res) : CV l yX5_rules wsX5_rules rm_X5_rules E [.ref (ad E 39), .int a1, .int a2] o σ res.2 := by
  intro sz
  refine Met.ofW (cc := cX5_rules) (maxL := 3) (ret := none) (by decide) rfl ?_
  intro p e s m args below meth c s₁ B hml hv
  obtain ⟨rfl, hv⟩ := hv
  obtain ⟨rfl, hK, I⟩ := hv.start
  have C : Cx p c cX5_rules 3 s m _ wsX5_rules RX5 E := ⟨⟨B.exec, B.bytes, hml, findClass_of_methodNamed B.named, atoms_spec (ws := wsX5_rules) B.pre⟩, hK⟩
  have hx := C.1.1
  have hb := C.1.2.1
  have hr := B.returns
  have hlocks := B.notSynchronized
  clear hv
  have hl := lv_entry ([.ref (ad E 39), .int a1, .int a2]) (n := 3) (Nat.le_of_ble_eq_true rfl)
  rw [lg_entry_eq]
  generalize (lg_sl ([.ref (ad E 39), .int a1, .int a2]) ++ List.replicate (3 - (lg_sl ([.ref (ad E 39), .int a1, .int a2])).length) Slot.unset).toArray = ls at hl ⊢
  have hl : lv_has ls 3 [(0, .ref (ad E 39)), (1, .int a1), (2, .int a2)] := hl
  generalize ([.ref (ad E 39), .int a1, .int a2] : List Value).toArray = args at C ⊢
  refine g_begin I (fun H locs I => ?_)
  rw [f_X5_rules] at hf
  refine lv_aload_n hx hb dX5_rules_0 rfl (lv_at hl 0 rfl) ?_
  refine lv_iload_n hx hb dX5_rules_1 rfl (lv_at hl 1 rfl) ?_
  refine lv_iconst (v := (1 : Int32)) hx hb dX5_rules_2 (by decide) ?_
  refine lv_bipush (v := (9 : Int32)) hx hb dX5_rules_3 (by decide) ?_
  obtain ⟨r_1, σ_2, hg_3, hf⟩ := bd_some hf
  refine g_csi (av := [.int a1, .int (1 : Int32), .int (9 : Int32)]) (rest := [.ref (ad E 39)]) C I AA.new (c_X5_in l E o a1 (1 : Int32) (9 : Int32) σ hg_3) (cwS 3 C.1.2.2.2.2 gX5_rules_X5_in rfl rfl rfl (by decide +kernel) ⟨Nat.le_of_ble_eq_true rfl, Nat.le_of_ble_eq_true rfl⟩) rfl hl.1 rfl (Nat.le_of_ble_eq_true rfl) ⟨Nat.le_of_ble_eq_true rfl, Nat.le_of_ble_eq_true rfl⟩ dX5_rules_5 (fun H locs I => ?_)
  obtain ⟨J_5, eJ_5, hf⟩ := lt_split hf
  have hJ_5 : ∀ (y_10 : Int32) (σ_11 : St) (H : Heap) (locs : List Loc) (ls : Array Slot), J_5 y_10 σ_11 = some res → Iv E (AA E s.heap.size) s.heap o σ_11 H locs → lv_has ls 3 [(0, .ref (ad E 39)), (1, .int a1), (2, .int a2)] → WW_X5_rules p l e s m args below meth c E o res H locs 0 0 (F0 m 27 ls [.int y_10, .ref (ad E 39)]) := by
    intro y_10 σ_11 H locs ls hf I hl
    rw [eJ_5] at hf
    refine lv_iconst (v := (0 : Int32)) hx hb dX5_rules_27 (by decide) ?_
    refine lv_iconst (v := (0 : Int32)) hx hb dX5_rules_28 (by decide) ?_
    obtain ⟨r_12, σ_13, hg_14, hf⟩ := bd_some hf
    refine g_cvi (av := [.int y_10, .int (0 : Int32), .int (0 : Int32)]) (rest := []) (k := 39) C I AA.new (c_X5_throwing l E o y_10 (0 : Int32) (0 : Int32) σ_11 hg_14) (cwV 3 C.1.2.2.2.2 gX5_rules_X5_throwing rfl rfl rfl (by decide +kernel) ⟨Nat.le_of_ble_eq_true rfl, Nat.le_of_ble_eq_true rfl⟩) (by decide) (gk_39 E o _) rfl rfl rfl hl.1 rfl (Nat.le_of_ble_eq_true rfl) ⟨Nat.le_of_ble_eq_true rfl, Nat.le_of_ble_eq_true rfl⟩ dX5_rules_29 (fun H locs I => ?_)
    refine lv_if_eq (tgt := 36) hx hb dX5_rules_32 (by decide) (fun c_15 => ?_) (fun c_15 => ?_)
    · have hf := if_t hf c_15
      refine lv_aload_n hx hb dX5_rules_36 rfl (lv_at hl 0 rfl) ?_
      refine lv_iload_n hx hb dX5_rules_37 rfl (lv_at hl 1 rfl) ?_
      refine g_put (k := 39) (v := a1) C I (by decide) (gk_39 E o) rfl in_X5_rules_X5 tyX5 tyX5_ok nmX5 1 (by decide) (C.1.2.2.2.2 _ k_X5_rules_7) rfl (by decide +kernel) (Nat.le_of_ble_eq_true rfl) rfl dX5_rules_38 (fun H locs σ_16 eσ_16 I => ?_)
      have hf := lt_at hf eσ_16
      refine lv_aload_n hx hb dX5_rules_41 rfl (lv_at hl 0 rfl) ?_
      refine lv_iload_n hx hb dX5_rules_42 rfl (lv_at hl 2 rfl) ?_
      refine g_put (k := 39) (v := a2) C I (by decide) (gk_39 E o) rfl in_X5_rules_X5 tyX5 tyX5_ok nmX5 2 (by decide) (C.1.2.2.2.2 _ k_X5_rules_13) rfl (by decide +kernel) (Nat.le_of_ble_eq_true rfl) rfl dX5_rules_43 (fun H locs σ_17 eσ_17 I => ?_)
      have hf := lt_at hf eσ_17
      exact g_vret C I hr hlocks hf dX5_rules_46
    · have hf := if_f hf c_15
      exact g_vret C I hr hlocks hf dX5_rules_35
  refine lv_if_eq (tgt := 22) hx hb dX5_rules_8 (by decide) (fun c_4 => ?_) (fun c_4 => ?_)
  · have hf := if_t hf c_4
    refine lv_iconst (v := (1 : Int32)) hx hb dX5_rules_22 (by decide) ?_
    refine lv_goto (tgt := 27) hx hb dX5_rules_23 (by decide) ?_
    exact hJ_5 _ σ_2 H locs ls hf I (lv_sub hl [0, 1, 2] rfl)
  · have hf := if_f hf c_4
    refine lv_iload_n hx hb dX5_rules_11 rfl (lv_at hl 2 rfl) ?_
    refine lv_iconst (v := (0 : Int32)) hx hb dX5_rules_12 (by decide) ?_
    refine lv_sipush (v := (1000 : Int32)) hx hb dX5_rules_13 (by decide) ?_
    obtain ⟨r_6, σ_7, hg_8, hf⟩ := bd_some hf
    refine g_csi (av := [.int a2, .int (0 : Int32), .int (1000 : Int32)]) (rest := [.ref (ad E 39)]) C I AA.new (c_X5_in l E o a2 (0 : Int32) (1000 : Int32) σ_2 hg_8) (cwS 3 C.1.2.2.2.2 gX5_rules_X5_in rfl rfl rfl (by decide +kernel) ⟨Nat.le_of_ble_eq_true rfl, Nat.le_of_ble_eq_true rfl⟩) rfl hl.1 rfl (Nat.le_of_ble_eq_true rfl) ⟨Nat.le_of_ble_eq_true rfl, Nat.le_of_ble_eq_true rfl⟩ dX5_rules_16 (fun H locs I => ?_)
    refine lv_if_ne (tgt := 26) hx hb dX5_rules_19 (by decide) (fun c_9 => ?_) (fun c_9 => ?_)
    · have hf := if_f hf c_9
      refine lv_iconst (v := (0 : Int32)) hx hb dX5_rules_26 (by decide) ?_
      exact hJ_5 _ σ_7 H locs ls hf I (lv_sub hl [0, 1, 2] rfl)
    · have hf := if_t hf c_9
      refine lv_iconst (v := (1 : Int32)) hx hb dX5_rules_22 (by decide) ?_
      refine lv_goto (tgt := 27) hx hb dX5_rules_23 (by decide) ?_
      exact hJ_5 _ σ_7 H locs ls hf I (lv_sub hl [0, 1, 2] rfl)
abbrev rm_X5_play : Room := { frames := 3, cells := 0, slots := 0, locals := 70 }
abbrev WW_X5_play (p : Program) (l : Launch) (e : Env) (s : State) (m : MethodId) (args : Array Value) (below : List Frame) (meth : Method) (c : Code) (E : En) (o : Int64) (res : Int32 × St) (H : Heap) (locs : List Loc) (cells slots : Nat) (g : JFrame) : Prop := W p l e (headSpec wsX5_play rm_X5_play).room s m args below meth c H locs cells slots (MQ below (Qv E s.heap.size o res.2) args s 0 0 (AA E s.heap.size)) g
theorem k_X5_play_32 : Cond.fieldLink RX5 32 "DaySimulateModel" "stands" "[I" ∈ wsX5_play := by decide +kernel
theorem k_X5_play_86 : Cond.fieldLink RX5 86 "DaySimulateModel" "units" "I" ∈ wsX5_play := by decide +kernel
theorem k_X5_play_59 : Cond.fieldLink RX5 59 "DaySimulateModel" "work" "[I" ∈ wsX5_play := by decide +kernel
theorem k_X5_play_56 : Cond.fieldLink RX5 56 "DaySimulateModel" "back" "[I" ∈ wsX5_play := by decide +kernel
theorem k_X5_play_62 : Cond.fieldLink RX5 62 "DaySimulateModel" "busy" "[I" ∈ wsX5_play := by decide +kernel
theorem k_X5_play_38 : Cond.fieldLink RX5 38 "DaySimulateModel" "place" "[I" ∈ wsX5_play := by decide +kernel
theorem k_X5_play_113 : Cond.constant RX5 113 (100000000 : Int32) ∈ wsX5_play := by decide +kernel
theorem k_X5_play_135 : Cond.fieldLink RX5 135 "DaySimulateModel" "missed" "I" ∈ wsX5_play := by decide +kernel
theorem in_X5_play_X5 : ∀ w ∈ wsX50, w ∈ wsX5_play := by decide +kernel
set_option maxHeartbeats 4000000 in
set_option maxRecDepth 100000 in
theorem lp_X5_play_14 {l : Launch} {p : Program} {e : Env} {s : State} {m : MethodId} {args : Array Value} {below : List Frame} {meth : Method} {c : Code} {E : En} {o : Int64} {res : Int32 × St} (C : Cx p c cX5_play 9 s m args wsX5_play RX5 E) (hr : meth.sig.returnType = none) (hlocks : meth.locks = false) (b1 : Int32) (K77 : Int32 → St → Option (Int32 × St)) (hK77 : ∀ (u5 : Int32) (σ : St) (H : Heap) (locs : List Loc) (ls : Array Slot), K77 u5 σ = some res → Iv E (AA E s.heap.size) s.heap o σ H locs → lv_has ls 9 [(0, .ref (ad E 39)), (1, .int b1), (5, .int u5)] → WW_X5_play p l e s m args below meth c E o res H locs 0 0 (F0 m 77 ls [])) :
    ∀ (n : Nat) (v5 : Int32) (v6 : Int32) (σ : St) (H : Heap) (locs : List Loc) (ls : Array Slot), f_X5_play_L14 b1 K77 n v5 v6 σ = some res → Iv E (AA E s.heap.size) s.heap o σ H locs → lv_has ls 9 [(0, .ref (ad E 39)), (1, .int b1), (5, .int v5), (6, .int v6)] → WW_X5_play p l e s m args below meth c E o res H locs 0 0 (F0 m 14 ls []) := by
  have hx := C.1.1
  have hb := C.1.2.1
  intro n
  induction n with
  | zero => intro v5 v6 σ H locs ls hf _ _; cases (show (none : Option (Int32 × St)) = some res from hf)
  | succ n ih =>
    intro v5 v6 σ H locs ls hf I hl
    rw [f_X5_play_L14] at hf
    refine lv_iload hx hb dX5_play_14 (lv_at hl 3 rfl) ?_
    refine lv_bipush (v := (12 : Int32)) hx hb dX5_play_16 (by decide) ?_
    refine lv_icmp_ge (tgt := 77) hx hb dX5_play_18 (by decide) (fun c_4 => ?_) (fun c_4 => ?_)
    · have hf := if_t hf c_4
      exact hK77 v5 σ H locs ls hf I (lv_sub hl [0, 1, 2] rfl)
    · have hf := if_f hf c_4
      refine lv_aload_n hx hb dX5_play_21 rfl (lv_at hl 0 rfl) ?_
      refine g_get (k := 39) (v := .ref (ad E 53)) C I (by decide) (gk_39 E o _) rfl in_X5_play_X5 20 (by decide) (C.1.2.2.2.2 _ k_X5_play_56) rfl dX5_play_22 ?_
      refine lv_iload hx hb dX5_play_25 (lv_at hl 3 rfl) ?_
      refine lv_iconst (v := (0 : Int32)) hx hb dX5_play_27 (by decide) ?_
      obtain ⟨h_5, hf⟩ := ck_some hf
      refine g_iast (k := 53) C I (by decide) (gk_53 E o) (ixb_in h_5) dX5_play_28 (fun H locs σ_6 eσ_6 I => ?_)
      have hf := lt_at hf eσ_6
      refine lv_aload_n hx hb dX5_play_29 rfl (lv_at hl 0 rfl) ?_
      refine g_get (k := 39) (v := .ref (ad E 54)) C I (by decide) (gk_39 E o _) rfl in_X5_play_X5 21 (by decide) (C.1.2.2.2.2 _ k_X5_play_59) rfl dX5_play_30 ?_
      refine lv_iload hx hb dX5_play_33 (lv_at hl 3 rfl) ?_
      refine lv_iconst (v := (0 : Int32)) hx hb dX5_play_35 (by decide) ?_
      obtain ⟨h_7, hf⟩ := ck_some hf
      refine g_iast (k := 54) C I (by decide) (gk_54 E o) (ixb_in h_7) dX5_play_36 (fun H locs σ_8 eσ_8 I => ?_)
      have hf := lt_at hf eσ_8
      refine lv_iload hx hb dX5_play_37 (lv_at hl 2 rfl) ?_
      refine lv_iload hx hb dX5_play_39 (lv_at hl 3 rfl) ?_
      refine lv_aload_n hx hb dX5_play_41 rfl (lv_at hl 0 rfl) ?_
      refine g_get (k := 39) (v := .int (σ_8 39 10)) C I (by decide) (gk_39 E o _) rfl in_X5_play_X5 10 (by decide) (C.1.2.2.2.2 _ k_X5_play_86) rfl dX5_play_42 ?_
      refine lv_icmp_ge (tgt := 67) hx hb dX5_play_45 (by decide) (fun c_9 => ?_) (fun c_9 => ?_)
      · have hf := if_t hf c_9
        refine lv_iconst (v := (0 : Int32)) hx hb dX5_play_67 (by decide) ?_
        refine lv_iadd hx hb dX5_play_68 ?_
        refine lv_topi (fun x_10 ex_10 => ?_)
        have hf := lt_at hf ex_10
        refine lv_istore (lv' := [(5, .int x_10), (0, .ref (ad E 39)), (1, .int b1), (6, .int v6)]) hx hb dX5_play_69 hl (by decide) rfl (fun ls hl => ?_)
        obtain ⟨x_11, ex_11⟩ : ∃ y : Int32, y = (v6 + (1 : Int32)) := ⟨_, rfl⟩
        have hf := lt_at hf ex_11
        refine lv_iinc (v := x_11) (lv' := [(6, .int x_11), (5, .int x_10), (0, .ref (ad E 39)), (1, .int b1)]) hx hb dX5_play_71 hl (k := 3) rfl (by rw [ex_11]; rfl) (by decide) rfl (fun ls hl => ?_)
        refine lv_goto (tgt := 14) hx hb dX5_play_74 (by decide) ?_
        exact ih x_10 x_11 σ_8 H locs ls hf I (lv_sub hl [2, 3, 1, 0] rfl)
      · have hf := if_f hf c_9
        refine lv_aload_n hx hb dX5_play_48 rfl (lv_at hl 0 rfl) ?_
        refine g_get (k := 39) (v := .ref (ad E 45)) C I (by decide) (gk_39 E o _) rfl in_X5_play_X5 11 (by decide) (C.1.2.2.2.2 _ k_X5_play_32) rfl dX5_play_49 ?_
        refine lv_bipush (v := (12 : Int32)) hx hb dX5_play_52 (by decide) ?_
        refine lv_iload_n hx hb dX5_play_54 rfl (lv_at hl 1 rfl) ?_
        refine lv_imul hx hb dX5_play_55 ?_
        refine lv_iload hx hb dX5_play_56 (lv_at hl 3 rfl) ?_
        refine lv_iadd hx hb dX5_play_58 ?_
        obtain ⟨h_12, hf⟩ := ck_some hf
        refine g_iald (k := 45) C I (by decide) (gk_45 E o) (ixb_in h_12) dX5_play_59 ?_
        refine lv_if_lt (tgt := 67) hx hb dX5_play_60 (by decide) (fun c_13 => ?_) (fun c_13 => ?_)
        · have hf := if_t hf c_13
          refine lv_iconst (v := (0 : Int32)) hx hb dX5_play_67 (by decide) ?_
          refine lv_iadd hx hb dX5_play_68 ?_
          refine lv_topi (fun x_14 ex_14 => ?_)
          have hf := lt_at hf ex_14
          refine lv_istore (lv' := [(5, .int x_14), (0, .ref (ad E 39)), (1, .int b1), (6, .int v6)]) hx hb dX5_play_69 hl (by decide) rfl (fun ls hl => ?_)
          obtain ⟨x_15, ex_15⟩ : ∃ y : Int32, y = (v6 + (1 : Int32)) := ⟨_, rfl⟩
          have hf := lt_at hf ex_15
          refine lv_iinc (v := x_15) (lv' := [(6, .int x_15), (5, .int x_14), (0, .ref (ad E 39)), (1, .int b1)]) hx hb dX5_play_71 hl (k := 3) rfl (by rw [ex_15]; rfl) (by decide) rfl (fun ls hl => ?_)
          refine lv_goto (tgt := 14) hx hb dX5_play_74 (by decide) ?_
          exact ih x_14 x_15 σ_8 H locs ls hf I (lv_sub hl [2, 3, 1, 0] rfl)
        · have hf := if_f hf c_13
          refine lv_iconst (v := (1 : Int32)) hx hb dX5_play_63 (by decide) ?_
          refine lv_goto (tgt := 68) hx hb dX5_play_64 (by decide) ?_
          refine lv_iadd hx hb dX5_play_68 ?_
          refine lv_topi (fun x_16 ex_16 => ?_)
          have hf := lt_at hf ex_16
          refine lv_istore (lv' := [(5, .int x_16), (0, .ref (ad E 39)), (1, .int b1), (6, .int v6)]) hx hb dX5_play_69 hl (by decide) rfl (fun ls hl => ?_)
          obtain ⟨x_17, ex_17⟩ : ∃ y : Int32, y = (v6 + (1 : Int32)) := ⟨_, rfl⟩
          have hf := lt_at hf ex_17
          refine lv_iinc (v := x_17) (lv' := [(6, .int x_17), (5, .int x_16), (0, .ref (ad E 39)), (1, .int b1)]) hx hb dX5_play_71 hl (k := 3) rfl (by rw [ex_17]; rfl) (by decide) rfl (fun ls hl => ?_)
          refine lv_goto (tgt := 14) hx hb dX5_play_74 (by decide) ?_
          exact ih x_16 x_17 σ_8 H locs ls hf I (lv_sub hl [2, 3, 1, 0] rfl)
set_option maxHeartbeats 4000000 in
set_option maxRecDepth 100000 in
theorem lp_X5_play_80 {l : Launch} {p : Program} {e : Env} {s : State} {m : MethodId} {args : Array Value} {below : List Frame} {meth : Method} {c : Code} {E : En} {o : Int64} {res : Int32 × St} (C : Cx p c cX5_play 9 s m args wsX5_play RX5 E) (hr : meth.sig.returnType = none) (hlocks : meth.locks = false) (b1 : Int32) (b5 : Int32) (K102 : St → Option (Int32 × St)) (hK102 : ∀  (σ : St) (H : Heap) (locs : List Loc) (ls : Array Slot), K102 σ = some res → Iv E (AA E s.heap.size) s.heap o σ H locs → lv_has ls 9 [(0, .ref (ad E 39)), (1, .int b1), (5, .int b5)] → WW_X5_play p l e s m args below meth c E o res H locs 0 0 (F0 m 102 ls [])) :
    ∀ (n : Nat) (v6 : Int32) (σ : St) (H : Heap) (locs : List Loc) (ls : Array Slot), f_X5_play_L80 b1 b5 K102 n v6 σ = some res → Iv E (AA E s.heap.size) s.heap o σ H locs → lv_has ls 9 [(0, .ref (ad E 39)), (1, .int b1), (5, .int b5), (6, .int v6)] → WW_X5_play p l e s m args below meth c E o res H locs 0 0 (F0 m 80 ls []) := by
  have hx := C.1.1
  have hb := C.1.2.1
  intro n
  induction n with
  | zero => intro v6 σ H locs ls hf _ _; cases (show (none : Option (Int32 × St)) = some res from hf)
  | succ n ih =>
    intro v6 σ H locs ls hf I hl
    rw [f_X5_play_L80] at hf
    refine lv_iload hx hb dX5_play_80 (lv_at hl 3 rfl) ?_
    refine lv_sipush (v := (1440 : Int32)) hx hb dX5_play_82 (by decide) ?_
    refine lv_icmp_ge (tgt := 102) hx hb dX5_play_85 (by decide) (fun c_20 => ?_) (fun c_20 => ?_)
    · have hf := if_t hf c_20
      exact hK102  σ H locs ls hf I (lv_sub hl [0, 1, 2] rfl)
    · have hf := if_f hf c_20
      refine lv_aload_n hx hb dX5_play_88 rfl (lv_at hl 0 rfl) ?_
      refine g_get (k := 39) (v := .ref (ad E 55)) C I (by decide) (gk_39 E o _) rfl in_X5_play_X5 22 (by decide) (C.1.2.2.2.2 _ k_X5_play_62) rfl dX5_play_89 ?_
      refine lv_iload hx hb dX5_play_92 (lv_at hl 3 rfl) ?_
      refine lv_iconst (v := (0 : Int32)) hx hb dX5_play_94 (by decide) ?_
      obtain ⟨h_21, hf⟩ := ck_some hf
      refine g_iast (k := 55) C I (by decide) (gk_55 E o) (ixb_in h_21) dX5_play_95 (fun H locs σ_22 eσ_22 I => ?_)
      have hf := lt_at hf eσ_22
      obtain ⟨x_23, ex_23⟩ : ∃ y : Int32, y = (v6 + (1 : Int32)) := ⟨_, rfl⟩
      have hf := lt_at hf ex_23
      refine lv_iinc (v := x_23) (lv' := [(6, .int x_23), (0, .ref (ad E 39)), (1, .int b1), (5, .int b5)]) hx hb dX5_play_96 hl (k := 3) rfl (by rw [ex_23]; rfl) (by decide) rfl (fun ls hl => ?_)
      refine lv_goto (tgt := 80) hx hb dX5_play_99 (by decide) ?_
      exact ih x_23 σ_22 H locs ls hf I (lv_sub hl [1, 2, 3, 0] rfl)
set_option maxHeartbeats 4000000 in
set_option maxRecDepth 100000 in
theorem lp_X5_play_105 {l : Launch} {p : Program} {e : Env} {s : State} {m : MethodId} {args : Array Value} {below : List Frame} {meth : Method} {c : Code} {E : En} {o : Int64} {res : Int32 × St} (C : Cx p c cX5_play 9 s m args wsX5_play RX5 E) (hr : meth.sig.returnType = none) (hlocks : meth.locks = false) (b1 : Int32) (b5 : Int32) (K197 : St → Option (Int32 × St)) (hK197 : ∀  (σ : St) (H : Heap) (locs : List Loc) (ls : Array Slot), K197 σ = some res → Iv E (AA E s.heap.size) s.heap o σ H locs → lv_has ls 9 [(0, .ref (ad E 39)), (5, .int b5)] → WW_X5_play p l e s m args below meth c E o res H locs 0 0 (F0 m 197 ls [])) :
    ∀ (n : Nat) (v6 : Int32) (σ : St) (H : Heap) (locs : List Loc) (ls : Array Slot), f_X5_play_L105 b1 b5 K197 n v6 σ = some res → Iv E (AA E s.heap.size) s.heap o σ H locs → lv_has ls 9 [(0, .ref (ad E 39)), (1, .int b1), (5, .int b5), (6, .int v6)] → WW_X5_play p l e s m args below meth c E o res H locs 0 0 (F0 m 105 ls []) := by
  have hx := C.1.1
  have hb := C.1.2.1
  intro n
  induction n with
  | zero => intro v6 σ H locs ls hf _ _; cases (show (none : Option (Int32 × St)) = some res from hf)
  | succ n ih =>
    intro v6 σ H locs ls hf I hl
    rw [f_X5_play_L105] at hf
    refine lv_iload hx hb dX5_play_105 (lv_at hl 3 rfl) ?_
    refine lv_ldc (v := (100000000 : Int32)) hx hb C.1.2.2.2.1 (C.1.2.2.2.2 _ k_X5_play_113) dX5_play_107 ?_
    refine lv_icmp_ge (tgt := 197) hx hb dX5_play_109 (by decide) (fun c_25 => ?_) (fun c_25 => ?_)
    · have hf := if_t hf c_25
      exact hK197  σ H locs ls hf I (lv_sub hl [0, 2] rfl)
    · have hf := if_f hf c_25
      refine lv_aload_n hx hb dX5_play_112 rfl (lv_at hl 0 rfl) ?_
      refine lv_iload hx hb dX5_play_113 (lv_at hl 3 rfl) ?_
      obtain ⟨r_26, σ_27, hg_28, hf⟩ := bd_some hf
      refine g_cvi (av := [.int v6]) (rest := []) (k := 39) C I AA.new (c_X5_next l E o v6 σ hg_28) (cwV 1 C.1.2.2.2.2 gX5_play_X5_next rfl rfl rfl (by decide +kernel) ⟨Nat.le_of_ble_eq_true rfl, Nat.le_of_ble_eq_true rfl⟩) (by decide) (gk_39 E o _) rfl rfl rfl hl.1 rfl (Nat.le_of_ble_eq_true rfl) ⟨Nat.le_of_ble_eq_true rfl, Nat.le_of_ble_eq_true rfl⟩ dX5_play_115 (fun H locs I => ?_)
      refine lv_istore (lv' := [(7, .int r_26), (0, .ref (ad E 39)), (1, .int b1), (5, .int b5), (6, .int v6)]) hx hb dX5_play_118 hl (by decide) rfl (fun ls hl => ?_)
      refine lv_iload hx hb dX5_play_120 (lv_at hl 0 rfl) ?_
      obtain ⟨J_30, eJ_30, hf⟩ := lt_split hf
      have hJ_30 : ∀ (y_35 : Int32) (σ_36 : St) (H : Heap) (locs : List Loc) (ls : Array Slot), J_30 y_35 σ_36 = some res → Iv E (AA E s.heap.size) s.heap o σ_36 H locs → lv_has ls 9 [(0, .ref (ad E 39)), (1, .int b1), (5, .int b5), (6, .int v6), (7, .int r_26)] → WW_X5_play p l e s m args below meth c E o res H locs 0 0 (F0 m 143 ls [.int y_35]) := by
        intro y_35 σ_36 H locs ls hf I hl
        rw [eJ_30] at hf
        refine lv_istore (lv' := [(8, .int y_35), (0, .ref (ad E 39)), (1, .int b1), (5, .int b5), (6, .int v6), (7, .int r_26)]) hx hb dX5_play_143 hl (by decide) rfl (fun ls hl => ?_)
        refine lv_iload hx hb dX5_play_145 (lv_at hl 0 rfl) ?_
        refine lv_if_lt (tgt := 186) hx hb dX5_play_147 (by decide) (fun c_37 => ?_) (fun c_37 => ?_)
        · have hf := if_t hf c_37
          refine lv_aload_n hx hb dX5_play_186 rfl (lv_at hl 1 rfl) ?_
          refine lv_iload hx hb dX5_play_187 (lv_at hl 4 rfl) ?_
          obtain ⟨r_38, σ_39, hg_40, hf⟩ := bd_some hf
          refine g_cvi (av := [.int v6]) (rest := []) (k := 39) C I AA.new (c_X5_later l E o v6 σ_36 hg_40) (cwV 1 C.1.2.2.2.2 gX5_play_X5_later rfl rfl rfl (by decide +kernel) ⟨Nat.le_of_ble_eq_true rfl, Nat.le_of_ble_eq_true rfl⟩) (by decide) (gk_39 E o _) rfl rfl rfl hl.1 rfl (Nat.le_of_ble_eq_true rfl) ⟨Nat.le_of_ble_eq_true rfl, Nat.le_of_ble_eq_true rfl⟩ dX5_play_189 (fun H locs I => ?_)
          refine lv_istore (lv' := [(6, .int r_38), (8, .int y_35), (0, .ref (ad E 39)), (1, .int b1), (5, .int b5), (7, .int r_26)]) hx hb dX5_play_192 hl (by decide) rfl (fun ls hl => ?_)
          refine lv_goto (tgt := 105) hx hb dX5_play_194 (by decide) ?_
          exact ih r_38 σ_39 H locs ls hf I (lv_sub hl [2, 3, 4, 0] rfl)
        · have hf := if_f hf c_37
          refine lv_aload_n hx hb dX5_play_150 rfl (lv_at hl 1 rfl) ?_
          refine lv_iload hx hb dX5_play_151 (lv_at hl 5 rfl) ?_
          refine lv_iload hx hb dX5_play_153 (lv_at hl 0 rfl) ?_
          refine lv_aload_n hx hb dX5_play_155 rfl (lv_at hl 1 rfl) ?_
          refine lv_aload_n hx hb dX5_play_156 rfl (lv_at hl 1 rfl) ?_
          refine g_get (k := 39) (v := .ref (ad E 45)) C I (by decide) (gk_39 E o _) rfl in_X5_play_X5 11 (by decide) (C.1.2.2.2.2 _ k_X5_play_32) rfl dX5_play_157 ?_
          refine lv_bipush (v := (12 : Int32)) hx hb dX5_play_160 (by decide) ?_
          refine lv_iload_n hx hb dX5_play_162 rfl (lv_at hl 2 rfl) ?_
          refine lv_imul hx hb dX5_play_163 ?_
          refine lv_iload hx hb dX5_play_164 (lv_at hl 0 rfl) ?_
          refine lv_iadd hx hb dX5_play_166 ?_
          obtain ⟨h_41, hf⟩ := ck_some hf
          refine g_iald (k := 45) C I (by decide) (gk_45 E o) (ixb_in h_41) dX5_play_167 ?_
          refine lv_aload_n hx hb dX5_play_168 rfl (lv_at hl 1 rfl) ?_
          refine g_get (k := 39) (v := .ref (ad E 47)) C I (by decide) (gk_39 E o _) rfl in_X5_play_X5 14 (by decide) (C.1.2.2.2.2 _ k_X5_play_38) rfl dX5_play_169 ?_
          refine lv_iload hx hb dX5_play_172 (lv_at hl 5 rfl) ?_
          obtain ⟨h_42, hf⟩ := ck_some hf
          refine g_iald (k := 47) C I (by decide) (gk_47 E o) (ixb_in h_42) dX5_play_174 ?_
          obtain ⟨r_43, σ_44, hg_45, hf⟩ := bd_some hf
          refine g_cvi (av := [.int (rd σ_36 45 (((12 : Int32) * b1) + y_35)), .int (rd σ_36 47 r_26)]) (rest := [.int y_35, .int r_26, .ref (ad E 39)]) (k := 39) C I AA.new (c_X5_wayOf l E o ((rd σ_36 45 (((12 : Int32) * b1) + y_35))) ((rd σ_36 47 r_26)) σ_36 hg_45) (cwV 2 C.1.2.2.2.2 gX5_play_X5_wayOf rfl rfl rfl (by decide +kernel) ⟨Nat.le_of_ble_eq_true rfl, Nat.le_of_ble_eq_true rfl⟩) (by decide) (gk_39 E o _) rfl rfl rfl hl.1 rfl (Nat.le_of_ble_eq_true rfl) ⟨Nat.le_of_ble_eq_true rfl, Nat.le_of_ble_eq_true rfl⟩ dX5_play_175 (fun H locs I => ?_)
          refine lv_iload hx hb dX5_play_178 (lv_at hl 4 rfl) ?_
          obtain ⟨r_46, σ_47, hg_48, hf⟩ := bd_some hf
          refine g_cvv (av := [.int r_26, .int y_35, .int r_43, .int v6]) (rest := []) (k := 39) C I AA.new (c_X5_send l E o r_26 y_35 r_43 v6 σ_44 hg_48) (cwV 4 C.1.2.2.2.2 gX5_play_X5_send rfl rfl rfl (by decide +kernel) ⟨Nat.le_of_ble_eq_true rfl, Nat.le_of_ble_eq_true rfl⟩) (by decide) (gk_39 E o _) rfl rfl rfl hl.1 rfl (Nat.le_of_ble_eq_true rfl) ⟨Nat.le_of_ble_eq_true rfl, Nat.le_of_ble_eq_true rfl⟩ dX5_play_180 (fun H locs I => ?_)
          refine lv_goto (tgt := 194) hx hb dX5_play_183 (by decide) ?_
          refine lv_goto (tgt := 105) hx hb dX5_play_194 (by decide) ?_
          exact ih v6 σ_47 H locs ls hf I (lv_sub hl [1, 2, 3, 4] rfl)
      refine lv_if_ge (tgt := 129) hx hb dX5_play_122 (by decide) (fun c_29 => ?_) (fun c_29 => ?_)
      · have hf := if_t hf c_29
        refine lv_aload_n hx hb dX5_play_129 rfl (lv_at hl 1 rfl) ?_
        refine lv_iload_n hx hb dX5_play_130 rfl (lv_at hl 2 rfl) ?_
        refine lv_aload_n hx hb dX5_play_131 rfl (lv_at hl 1 rfl) ?_
        refine g_get (k := 39) (v := .ref (ad E 47)) C I (by decide) (gk_39 E o _) rfl in_X5_play_X5 14 (by decide) (C.1.2.2.2.2 _ k_X5_play_38) rfl dX5_play_132 ?_
        refine lv_iload hx hb dX5_play_135 (lv_at hl 0 rfl) ?_
        obtain ⟨h_31, hf⟩ := ck_some hf
        refine g_iald (k := 47) C I (by decide) (gk_47 E o) (ixb_in h_31) dX5_play_137 ?_
        refine lv_iload hx hb dX5_play_138 (lv_at hl 4 rfl) ?_
        obtain ⟨r_32, σ_33, hg_34, hf⟩ := bd_some hf
        refine g_cvi (av := [.int b1, .int (rd σ_27 47 r_26), .int v6]) (rest := []) (k := 39) C I AA.new (c_X5_nearest l E o b1 ((rd σ_27 47 r_26)) v6 σ_27 hg_34) (cwV 3 C.1.2.2.2.2 gX5_play_X5_nearest rfl rfl rfl (by decide +kernel) ⟨Nat.le_of_ble_eq_true rfl, Nat.le_of_ble_eq_true rfl⟩) (by decide) (gk_39 E o _) rfl rfl rfl hl.1 rfl (Nat.le_of_ble_eq_true rfl) ⟨Nat.le_of_ble_eq_true rfl, Nat.le_of_ble_eq_true rfl⟩ dX5_play_140 (fun H locs I => ?_)
        exact hJ_30 _ σ_33 H locs ls hf I (lv_sub hl [1, 2, 3, 4, 0] rfl)
      · have hf := if_f hf c_29
        refine lv_iconst (v := (-1 : Int32)) hx hb dX5_play_125 (by decide) ?_
        refine lv_goto (tgt := 143) hx hb dX5_play_126 (by decide) ?_
        exact hJ_30 _ σ_27 H locs ls hf I (lv_sub hl [1, 2, 3, 4, 0] rfl)
set_option maxHeartbeats 4000000 in
set_option maxRecDepth 100000 in
theorem lp_X5_play_205 {l : Launch} {p : Program} {e : Env} {s : State} {m : MethodId} {args : Array Value} {below : List Frame} {meth : Method} {c : Code} {E : En} {o : Int64} {res : Int32 × St} (C : Cx p c cX5_play 9 s m args wsX5_play RX5 E) (hr : meth.sig.returnType = none) (hlocks : meth.locks = false) (b5 : Int32) (K245 : St → Option (Int32 × St)) (hK245 : ∀  (σ : St) (H : Heap) (locs : List Loc) (ls : Array Slot), K245 σ = some res → Iv E (AA E s.heap.size) s.heap o σ H locs → lv_has ls 9 [] → WW_X5_play p l e s m args below meth c E o res H locs 0 0 (F0 m 245 ls [])) :
    ∀ (n : Nat) (v7 : Int32) (σ : St) (H : Heap) (locs : List Loc) (ls : Array Slot), f_X5_play_L205 b5 K245 n v7 σ = some res → Iv E (AA E s.heap.size) s.heap o σ H locs → lv_has ls 9 [(0, .ref (ad E 39)), (5, .int b5), (7, .int v7)] → WW_X5_play p l e s m args below meth c E o res H locs 0 0 (F0 m 205 ls []) := by
  have hx := C.1.1
  have hb := C.1.2.1
  intro n
  induction n with
  | zero => intro v7 σ H locs ls hf _ _; cases (show (none : Option (Int32 × St)) = some res from hf)
  | succ n ih =>
    intro v7 σ H locs ls hf I hl
    rw [f_X5_play_L205] at hf
    refine lv_iload hx hb dX5_play_205 (lv_at hl 2 rfl) ?_
    refine lv_sipush (v := (1440 : Int32)) hx hb dX5_play_207 (by decide) ?_
    refine lv_icmp_ge (tgt := 245) hx hb dX5_play_210 (by decide) (fun c_51 => ?_) (fun c_51 => ?_)
    · have hf := if_t hf c_51
      exact hK245  σ H locs ls hf I (lv_sub hl [] rfl)
    · have hf := if_f hf c_51
      refine lv_aload_n hx hb dX5_play_213 rfl (lv_at hl 0 rfl) ?_
      refine lv_dup hx hb dX5_play_214 rfl ?_
      refine g_get (k := 39) (v := .int (σ 39 23)) C I (by decide) (gk_39 E o _) rfl in_X5_play_X5 23 (by decide) (C.1.2.2.2.2 _ k_X5_play_135) rfl dX5_play_215 ?_
      refine lv_aload_n hx hb dX5_play_218 rfl (lv_at hl 0 rfl) ?_
      refine g_get (k := 39) (v := .ref (ad E 55)) C I (by decide) (gk_39 E o _) rfl in_X5_play_X5 22 (by decide) (C.1.2.2.2.2 _ k_X5_play_62) rfl dX5_play_219 ?_
      refine lv_iload hx hb dX5_play_222 (lv_at hl 2 rfl) ?_
      obtain ⟨h_52, hf⟩ := ck_some hf
      refine g_iald (k := 55) C I (by decide) (gk_55 E o) (ixb_in h_52) dX5_play_224 ?_
      refine lv_iload hx hb dX5_play_225 (lv_at hl 1 rfl) ?_
      refine lv_icmp_ne (tgt := 234) hx hb dX5_play_227 (by decide) (fun c_53 => ?_) (fun c_53 => ?_)
      · have hf := if_f hf c_53
        refine lv_iconst (v := (0 : Int32)) hx hb dX5_play_234 (by decide) ?_
        refine lv_iadd hx hb dX5_play_235 ?_
        refine g_put (k := 39) (v := ((σ 39 23) + (0 : Int32))) C I (by decide) (gk_39 E o) rfl in_X5_play_X5 tyX5 tyX5_ok nmX5 23 (by decide) (C.1.2.2.2.2 _ k_X5_play_135) rfl (by decide +kernel) (Nat.le_of_ble_eq_true rfl) rfl dX5_play_236 (fun H locs σ_54 eσ_54 I => ?_)
        have hf := lt_at hf eσ_54
        obtain ⟨x_55, ex_55⟩ : ∃ y : Int32, y = (v7 + (1 : Int32)) := ⟨_, rfl⟩
        have hf := lt_at hf ex_55
        refine lv_iinc (v := x_55) (lv' := [(7, .int x_55), (0, .ref (ad E 39)), (5, .int b5)]) hx hb dX5_play_239 hl (k := 2) rfl (by rw [ex_55]; rfl) (by decide) rfl (fun ls hl => ?_)
        refine lv_goto (tgt := 205) hx hb dX5_play_242 (by decide) ?_
        exact ih x_55 σ_54 H locs ls hf I (lv_sub hl [1, 2, 0] rfl)
      · have hf := if_t hf c_53
        refine lv_iconst (v := (1 : Int32)) hx hb dX5_play_230 (by decide) ?_
        refine lv_goto (tgt := 235) hx hb dX5_play_231 (by decide) ?_
        refine lv_iadd hx hb dX5_play_235 ?_
        refine g_put (k := 39) (v := ((σ 39 23) + (1 : Int32))) C I (by decide) (gk_39 E o) rfl in_X5_play_X5 tyX5 tyX5_ok nmX5 23 (by decide) (C.1.2.2.2.2 _ k_X5_play_135) rfl (by decide +kernel) (Nat.le_of_ble_eq_true rfl) rfl dX5_play_236 (fun H locs σ_56 eσ_56 I => ?_)
        have hf := lt_at hf eσ_56
        obtain ⟨x_57, ex_57⟩ : ∃ y : Int32, y = (v7 + (1 : Int32)) := ⟨_, rfl⟩
        have hf := lt_at hf ex_57
        refine lv_iinc (v := x_57) (lv' := [(7, .int x_57), (0, .ref (ad E 39)), (5, .int b5)]) hx hb dX5_play_239 hl (k := 2) rfl (by rw [ex_57]; rfl) (by decide) rfl (fun ls hl => ?_)
        refine lv_goto (tgt := 205) hx hb dX5_play_242 (by decide) ?_
        exact ih x_57 σ_56 H locs ls hf I (lv_sub hl [1, 2, 0] rfl)
set_option maxHeartbeats 4000000 in
set_option maxRecDepth 100000 in
theorem c_X5_play (l : Launch) (E : En) (o : Int64) (a1 : Int32) (a2 : Int32) (a3 : Int32) (a4 : Int32) (σ : St) {res : Int32 × St} (hf : f_X5_play a1 a2 a3 a4 σ = some res) : CV l yX5_play wsX5_play rm_X5_play E [.ref (ad E 39), .int a1, .int a2, .int a3, .int a4] o σ res.2 := by
  intro sz
  refine Met.ofW (cc := cX5_play) (maxL := 9) (ret := none) (by decide) rfl ?_
  intro p e s m args below meth c s₁ B hml hv
  obtain ⟨rfl, hv⟩ := hv
  obtain ⟨rfl, hK, I⟩ := hv.start
  have C : Cx p c cX5_play 9 s m _ wsX5_play RX5 E := ⟨⟨B.exec, B.bytes, hml, findClass_of_methodNamed B.named, atoms_spec (ws := wsX5_play) B.pre⟩, hK⟩
  have hx := C.1.1
  have hb := C.1.2.1
  have hr := B.returns
  have hlocks := B.notSynchronized
  clear hv
  have hl := lv_entry ([.ref (ad E 39), .int a1, .int a2, .int a3, .int a4]) (n := 9) (Nat.le_of_ble_eq_true rfl)
  rw [lg_entry_eq]
  generalize (lg_sl ([.ref (ad E 39), .int a1, .int a2, .int a3, .int a4]) ++ List.replicate (9 - (lg_sl ([.ref (ad E 39), .int a1, .int a2, .int a3, .int a4])).length) Slot.unset).toArray = ls at hl ⊢
  have hl : lv_has ls 9 [(0, .ref (ad E 39)), (1, .int a1), (2, .int a2), (3, .int a3), (4, .int a4)] := hl
  generalize ([.ref (ad E 39), .int a1, .int a2, .int a3, .int a4] : List Value).toArray = args at C ⊢
  refine g_begin I (fun H locs I => ?_)
  rw [f_X5_play] at hf
  refine lv_aload_n hx hb dX5_play_0 rfl (lv_at hl 0 rfl) ?_
  refine lv_iload_n hx hb dX5_play_1 rfl (lv_at hl 2 rfl) ?_
  refine lv_iload_n hx hb dX5_play_2 rfl (lv_at hl 3 rfl) ?_
  refine lv_iload hx hb dX5_play_3 (lv_at hl 4 rfl) ?_
  obtain ⟨r_1, σ_2, hg_3, hf⟩ := bd_some hf
  refine g_cvv (av := [.int a2, .int a3, .int a4]) (rest := []) (k := 39) C I AA.new (c_X5_draw l E o a2 a3 a4 σ hg_3) (cwV 3 C.1.2.2.2.2 gX5_play_X5_draw rfl rfl rfl (by decide +kernel) ⟨Nat.le_of_ble_eq_true rfl, Nat.le_of_ble_eq_true rfl⟩) (by decide) (gk_39 E o _) rfl rfl rfl hl.1 rfl (Nat.le_of_ble_eq_true rfl) ⟨Nat.le_of_ble_eq_true rfl, Nat.le_of_ble_eq_true rfl⟩ dX5_play_5 (fun H locs I => ?_)
  refine lv_iconst (v := (0 : Int32)) hx hb dX5_play_8 (by decide) ?_
  refine lv_istore (lv' := [(5, .int (0 : Int32)), (0, .ref (ad E 39)), (1, .int a1), (2, .int a2), (3, .int a3), (4, .int a4)]) hx hb dX5_play_9 hl (by decide) rfl (fun ls hl => ?_)
  refine lv_iconst (v := (0 : Int32)) hx hb dX5_play_11 (by decide) ?_
  refine lv_istore (lv' := [(6, .int (0 : Int32)), (5, .int (0 : Int32)), (0, .ref (ad E 39)), (1, .int a1), (2, .int a2), (3, .int a3), (4, .int a4)]) hx hb dX5_play_12 hl (by decide) rfl (fun ls hl => ?_)
  refine lp_X5_play_14 C hr hlocks a1 _ ?_ _ (0 : Int32) (0 : Int32) σ_2 H locs ls hf I (lv_sub hl [2, 3, 1, 0] rfl)
  · intro y_18 σ_19 H locs ls hf I hl
    refine lv_iconst (v := (0 : Int32)) hx hb dX5_play_77 (by decide) ?_
    refine lv_istore (lv' := [(6, .int (0 : Int32)), (0, .ref (ad E 39)), (1, .int a1), (5, .int y_18)]) hx hb dX5_play_78 hl (by decide) rfl (fun ls hl => ?_)
    refine lp_X5_play_80 C hr hlocks a1 y_18 _ ?_ _ (0 : Int32) σ_19 H locs ls hf I (lv_sub hl [1, 2, 3, 0] rfl)
    · intro  σ_24 H locs ls hf I hl
      refine lv_iconst (v := (0 : Int32)) hx hb dX5_play_102 (by decide) ?_
      refine lv_istore (lv' := [(6, .int (0 : Int32)), (0, .ref (ad E 39)), (1, .int a1), (5, .int y_18)]) hx hb dX5_play_103 hl (by decide) rfl (fun ls hl => ?_)
      refine lp_X5_play_105 C hr hlocks a1 y_18 _ ?_ _ (0 : Int32) σ_24 H locs ls hf I (lv_sub hl [1, 2, 3, 0] rfl)
      · intro  σ_49 H locs ls hf I hl
        refine lv_aload_n hx hb dX5_play_197 rfl (lv_at hl 0 rfl) ?_
        refine lv_iconst (v := (0 : Int32)) hx hb dX5_play_198 (by decide) ?_
        refine g_put (k := 39) (v := (0 : Int32)) C I (by decide) (gk_39 E o) rfl in_X5_play_X5 tyX5 tyX5_ok nmX5 23 (by decide) (C.1.2.2.2.2 _ k_X5_play_135) rfl (by decide +kernel) (Nat.le_of_ble_eq_true rfl) rfl dX5_play_199 (fun H locs σ_50 eσ_50 I => ?_)
        have hf := lt_at hf eσ_50
        refine lv_iconst (v := (0 : Int32)) hx hb dX5_play_202 (by decide) ?_
        refine lv_istore (lv' := [(7, .int (0 : Int32)), (0, .ref (ad E 39)), (5, .int y_18)]) hx hb dX5_play_203 hl (by decide) rfl (fun ls hl => ?_)
        refine lp_X5_play_205 C hr hlocks y_18 _ ?_ _ (0 : Int32) σ_50 H locs ls hf I (lv_sub hl [1, 2, 0] rfl)
        · intro  σ_58 H locs ls hf I hl
          exact g_vret C I hr hlocks hf dX5_play_245
abbrev rm_X5_forget : Room := { frames := 0, cells := 0, slots := 0, locals := 0 }
abbrev WW_X5_forget (p : Program) (l : Launch) (e : Env) (s : State) (m : MethodId) (args : Array Value) (below : List Frame) (meth : Method) (c : Code) (E : En) (o : Int64) (res : Int32 × St) (H : Heap) (locs : List Loc) (cells slots : Nat) (g : JFrame) : Prop := W p l e (headSpec wsX5_forget rm_X5_forget).room s m args below meth c H locs cells slots (MQ below (Qv E s.heap.size o res.2) args s 0 0 (AA E s.heap.size)) g
theorem k_X5_forget_59 : Cond.fieldLink RX5 59 "DaySimulateModel" "work" "[I" ∈ wsX5_forget := by decide +kernel
theorem k_X5_forget_135 : Cond.fieldLink RX5 135 "DaySimulateModel" "missed" "I" ∈ wsX5_forget := by decide +kernel
theorem k_X5_forget_99 : Cond.fieldLink RX5 99 "DaySimulateModel" "calls" "I" ∈ wsX5_forget := by decide +kernel
theorem in_X5_forget_X5 : ∀ w ∈ wsX50, w ∈ wsX5_forget := by decide +kernel
set_option maxHeartbeats 4000000 in
set_option maxRecDepth 100000 in
theorem lp_X5_forget_12 {l : Launch} {p : Program} {e : Env} {s : State} {m : MethodId} {args : Array Value} {below : List Frame} {meth : Method} {c : Code} {E : En} {o : Int64} {res : Int32 × St} (C : Cx p c cX5_forget 2 s m args wsX5_forget RX5 E) (hr : meth.sig.returnType = none) (hlocks : meth.locks = false)  (K31 : St → Option (Int32 × St)) (hK31 : ∀  (σ : St) (H : Heap) (locs : List Loc) (ls : Array Slot), K31 σ = some res → Iv E (AA E s.heap.size) s.heap o σ H locs → lv_has ls 2 [] → WW_X5_forget p l e s m args below meth c E o res H locs 0 0 (F0 m 31 ls [])) :
    ∀ (n : Nat) (v1 : Int32) (σ : St) (H : Heap) (locs : List Loc) (ls : Array Slot), f_X5_forget_L12 K31 n v1 σ = some res → Iv E (AA E s.heap.size) s.heap o σ H locs → lv_has ls 2 [(0, .ref (ad E 39)), (1, .int v1)] → WW_X5_forget p l e s m args below meth c E o res H locs 0 0 (F0 m 12 ls []) := by
  have hx := C.1.1
  have hb := C.1.2.1
  intro n
  induction n with
  | zero => intro v1 σ H locs ls hf _ _; cases (show (none : Option (Int32 × St)) = some res from hf)
  | succ n ih =>
    intro v1 σ H locs ls hf I hl
    rw [f_X5_forget_L12] at hf
    refine lv_iload_n hx hb dX5_forget_12 rfl (lv_at hl 1 rfl) ?_
    refine lv_bipush (v := (12 : Int32)) hx hb dX5_forget_13 (by decide) ?_
    refine lv_icmp_ge (tgt := 31) hx hb dX5_forget_15 (by decide) (fun c_3 => ?_) (fun c_3 => ?_)
    · have hf := if_t hf c_3
      exact hK31  σ H locs ls hf I (lv_sub hl [] rfl)
    · have hf := if_f hf c_3
      refine lv_aload_n hx hb dX5_forget_18 rfl (lv_at hl 0 rfl) ?_
      refine g_get (k := 39) (v := .ref (ad E 54)) C I (by decide) (gk_39 E o _) rfl in_X5_forget_X5 21 (by decide) (C.1.2.2.2.2 _ k_X5_forget_59) rfl dX5_forget_19 ?_
      refine lv_iload_n hx hb dX5_forget_22 rfl (lv_at hl 1 rfl) ?_
      refine lv_iconst (v := (0 : Int32)) hx hb dX5_forget_23 (by decide) ?_
      obtain ⟨h_4, hf⟩ := ck_some hf
      refine g_iast (k := 54) C I (by decide) (gk_54 E o) (ixb_in h_4) dX5_forget_24 (fun H locs σ_5 eσ_5 I => ?_)
      have hf := lt_at hf eσ_5
      obtain ⟨x_6, ex_6⟩ : ∃ y : Int32, y = (v1 + (1 : Int32)) := ⟨_, rfl⟩
      have hf := lt_at hf ex_6
      refine lv_iinc (v := x_6) (lv' := [(1, .int x_6), (0, .ref (ad E 39))]) hx hb dX5_forget_25 hl (k := 1) rfl (by rw [ex_6]; rfl) (by decide) rfl (fun ls hl => ?_)
      refine lv_goto (tgt := 12) hx hb dX5_forget_28 (by decide) ?_
      exact ih x_6 σ_5 H locs ls hf I (lv_sub hl [1, 0] rfl)
set_option maxHeartbeats 4000000 in
set_option maxRecDepth 100000 in
theorem c_X5_forget (l : Launch) (E : En) (o : Int64)  (σ : St) {res : Int32 × St} (hf : f_X5_forget σ = some res) : CV l yX5_forget wsX5_forget rm_X5_forget E [.ref (ad E 39)] o σ res.2 := by
  intro sz
  refine Met.ofW (cc := cX5_forget) (maxL := 2) (ret := none) (by decide) rfl ?_
  intro p e s m args below meth c s₁ B hml hv
  obtain ⟨rfl, hv⟩ := hv
  obtain ⟨rfl, hK, I⟩ := hv.start
  have C : Cx p c cX5_forget 2 s m _ wsX5_forget RX5 E := ⟨⟨B.exec, B.bytes, hml, findClass_of_methodNamed B.named, atoms_spec (ws := wsX5_forget) B.pre⟩, hK⟩
  have hx := C.1.1
  have hb := C.1.2.1
  have hr := B.returns
  have hlocks := B.notSynchronized
  clear hv
  have hl := lv_entry ([.ref (ad E 39)]) (n := 2) (Nat.le_of_ble_eq_true rfl)
  rw [lg_entry_eq]
  generalize (lg_sl ([.ref (ad E 39)]) ++ List.replicate (2 - (lg_sl ([.ref (ad E 39)])).length) Slot.unset).toArray = ls at hl ⊢
  have hl : lv_has ls 2 [(0, .ref (ad E 39))] := hl
  generalize ([.ref (ad E 39)] : List Value).toArray = args at C ⊢
  refine g_begin I (fun H locs I => ?_)
  rw [f_X5_forget] at hf
  refine lv_aload_n hx hb dX5_forget_0 rfl (lv_at hl 0 rfl) ?_
  refine lv_iconst (v := (0 : Int32)) hx hb dX5_forget_1 (by decide) ?_
  refine g_put (k := 39) (v := (0 : Int32)) C I (by decide) (gk_39 E o) rfl in_X5_forget_X5 tyX5 tyX5_ok nmX5 12 (by decide) (C.1.2.2.2.2 _ k_X5_forget_99) rfl (by decide +kernel) (Nat.le_of_ble_eq_true rfl) rfl dX5_forget_2 (fun H locs σ_1 eσ_1 I => ?_)
  have hf := lt_at hf eσ_1
  refine lv_aload_n hx hb dX5_forget_5 rfl (lv_at hl 0 rfl) ?_
  refine lv_iconst (v := (0 : Int32)) hx hb dX5_forget_6 (by decide) ?_
  refine g_put (k := 39) (v := (0 : Int32)) C I (by decide) (gk_39 E o) rfl in_X5_forget_X5 tyX5 tyX5_ok nmX5 23 (by decide) (C.1.2.2.2.2 _ k_X5_forget_135) rfl (by decide +kernel) (Nat.le_of_ble_eq_true rfl) rfl dX5_forget_7 (fun H locs σ_2 eσ_2 I => ?_)
  have hf := lt_at hf eσ_2
  refine lv_iconst (v := (0 : Int32)) hx hb dX5_forget_10 (by decide) ?_
  refine lv_istore_n (lv' := [(1, .int (0 : Int32)), (0, .ref (ad E 39))]) hx hb dX5_forget_11 rfl hl (by decide) rfl (fun ls hl => ?_)
  refine lp_X5_forget_12 C hr hlocks _ ?_ _ (0 : Int32) σ_2 H locs ls hf I (lv_sub hl [1, 0] rfl)
  · intro  σ_7 H locs ls hf I hl
    exact g_vret C I hr hlocks hf dX5_forget_31
abbrev rm_X5_isLate : Room := { frames := 0, cells := 0, slots := 0, locals := 0 }
abbrev WW_X5_isLate (p : Program) (l : Launch) (e : Env) (s : State) (m : MethodId) (args : Array Value) (below : List Frame) (meth : Method) (c : Code) (E : En) (o : Int64) (res : Int32 × St) (H : Heap) (locs : List Loc) (cells slots : Nat) (g : JFrame) : Prop := W p l e (headSpec wsX5_isLate rm_X5_isLate).room s m args below meth c H locs cells slots (MQ below (Qi E s.heap.size o res.1 res.2) args s 0 0 (AA E s.heap.size)) g
theorem k_X5_isLate_13 : Cond.fieldLink RX5 13 "DaySimulateModel" "mark" "I" ∈ wsX5_isLate := by decide +kernel
theorem k_X5_isLate_35 : Cond.fieldLink RX5 35 "DaySimulateModel" "minute" "[I" ∈ wsX5_isLate := by decide +kernel
theorem k_X5_isLate_50 : Cond.fieldLink RX5 50 "DaySimulateModel" "came" "[I" ∈ wsX5_isLate := by decide +kernel
theorem k_X5_isLate_47 : Cond.fieldLink RX5 47 "DaySimulateModel" "unit" "[I" ∈ wsX5_isLate := by decide +kernel
theorem in_X5_isLate_X5 : ∀ w ∈ wsX50, w ∈ wsX5_isLate := by decide +kernel
set_option maxHeartbeats 4000000 in
set_option maxRecDepth 100000 in
theorem c_X5_isLate (l : Launch) (E : En) (o : Int64) (a1 : Int32) (σ : St) {res : Int32 × St} (hf : f_X5_isLate a1 σ = some res) : CI l yX5_isLate wsX5_isLate rm_X5_isLate E [.ref (ad E 39), .int a1] o σ res.1 res.2 := by
  intro sz
  refine Met.ofW (cc := cX5_isLate) (maxL := 2) (ret := (some .boolean)) (by decide) rfl ?_
  intro p e s m args below meth c s₁ B hml hv
  obtain ⟨rfl, hv⟩ := hv
  obtain ⟨rfl, hK, I⟩ := hv.start
  have C : Cx p c cX5_isLate 2 s m _ wsX5_isLate RX5 E := ⟨⟨B.exec, B.bytes, hml, findClass_of_methodNamed B.named, atoms_spec (ws := wsX5_isLate) B.pre⟩, hK⟩
  have hx := C.1.1
  have hb := C.1.2.1
  have hr := B.returns
  have hlocks := B.notSynchronized
  clear hv
  have hl := lv_entry ([.ref (ad E 39), .int a1]) (n := 2) (Nat.le_of_ble_eq_true rfl)
  rw [lg_entry_eq]
  generalize (lg_sl ([.ref (ad E 39), .int a1]) ++ List.replicate (2 - (lg_sl ([.ref (ad E 39), .int a1])).length) Slot.unset).toArray = ls at hl ⊢
  have hl : lv_has ls 2 [(0, .ref (ad E 39)), (1, .int a1)] := hl
  generalize ([.ref (ad E 39), .int a1] : List Value).toArray = args at C ⊢
  refine g_begin I (fun H locs I => ?_)
  rw [f_X5_isLate] at hf
  refine lv_aload_n hx hb dX5_isLate_0 rfl (lv_at hl 0 rfl) ?_
  refine g_get (k := 39) (v := .ref (ad E 50)) C I (by decide) (gk_39 E o _) rfl in_X5_isLate_X5 17 (by decide) (C.1.2.2.2.2 _ k_X5_isLate_47) rfl dX5_isLate_1 ?_
  refine lv_iload_n hx hb dX5_isLate_4 rfl (lv_at hl 1 rfl) ?_
  obtain ⟨h_1, hf⟩ := ck_some hf
  refine g_iald (k := 50) C I (by decide) (gk_50 E o) (ixb_in h_1) dX5_isLate_5 ?_
  refine lv_if_lt (tgt := 29) hx hb dX5_isLate_6 (by decide) (fun c_2 => ?_) (fun c_2 => ?_)
  · have hf := if_t hf c_2
    refine lv_iconst (v := (1 : Int32)) hx hb dX5_isLate_29 (by decide) ?_
    refine lv_goto (tgt := 34) hx hb dX5_isLate_30 (by decide) ?_
    exact g_zret C I hr hlocks rfl hf dX5_isLate_34
  · have hf := if_f hf c_2
    refine lv_aload_n hx hb dX5_isLate_9 rfl (lv_at hl 0 rfl) ?_
    refine g_get (k := 39) (v := .ref (ad E 51)) C I (by decide) (gk_39 E o _) rfl in_X5_isLate_X5 18 (by decide) (C.1.2.2.2.2 _ k_X5_isLate_50) rfl dX5_isLate_10 ?_
    refine lv_iload_n hx hb dX5_isLate_13 rfl (lv_at hl 1 rfl) ?_
    obtain ⟨h_3, hf⟩ := ck_some hf
    refine g_iald (k := 51) C I (by decide) (gk_51 E o) (ixb_in h_3) dX5_isLate_14 ?_
    refine lv_aload_n hx hb dX5_isLate_15 rfl (lv_at hl 0 rfl) ?_
    refine g_get (k := 39) (v := .ref (ad E 46)) C I (by decide) (gk_39 E o _) rfl in_X5_isLate_X5 13 (by decide) (C.1.2.2.2.2 _ k_X5_isLate_35) rfl dX5_isLate_16 ?_
    refine lv_iload_n hx hb dX5_isLate_19 rfl (lv_at hl 1 rfl) ?_
    obtain ⟨h_4, hf⟩ := ck_some hf
    refine g_iald (k := 46) C I (by decide) (gk_46 E o) (ixb_in h_4) dX5_isLate_20 ?_
    refine lv_isub hx hb dX5_isLate_21 ?_
    refine lv_aload_n hx hb dX5_isLate_22 rfl (lv_at hl 0 rfl) ?_
    refine g_get (k := 39) (v := .int (σ 39 2)) C I (by decide) (gk_39 E o _) rfl in_X5_isLate_X5 2 (by decide) (C.1.2.2.2.2 _ k_X5_isLate_13) rfl dX5_isLate_23 ?_
    refine lv_icmp_le (tgt := 33) hx hb dX5_isLate_26 (by decide) (fun c_5 => ?_) (fun c_5 => ?_)
    · have hf := if_t hf c_5
      refine lv_iconst (v := (0 : Int32)) hx hb dX5_isLate_33 (by decide) ?_
      exact g_zret C I hr hlocks rfl hf dX5_isLate_34
    · have hf := if_f hf c_5
      refine lv_iconst (v := (1 : Int32)) hx hb dX5_isLate_29 (by decide) ?_
      refine lv_goto (tgt := 34) hx hb dX5_isLate_30 (by decide) ?_
      exact g_zret C I hr hlocks rfl hf dX5_isLate_34
abbrev rm_X5_late : Room := { frames := 1, cells := 0, slots := 0, locals := 21 }
abbrev WW_X5_late (p : Program) (l : Launch) (e : Env) (s : State) (m : MethodId) (args : Array Value) (below : List Frame) (meth : Method) (c : Code) (E : En) (o : Int64) (res : Int32 × St) (H : Heap) (locs : List Loc) (cells slots : Nat) (g : JFrame) : Prop := W p l e (headSpec wsX5_late rm_X5_late).room s m args below meth c H locs cells slots (MQ below (Qi E s.heap.size o res.1 res.2) args s 0 0 (AA E s.heap.size)) g
theorem k_X5_late_99 : Cond.fieldLink RX5 99 "DaySimulateModel" "calls" "I" ∈ wsX5_late := by decide +kernel
theorem in_X5_late_X5 : ∀ w ∈ wsX50, w ∈ wsX5_late := by decide +kernel
set_option maxHeartbeats 4000000 in
set_option maxRecDepth 100000 in
theorem lp_X5_late_4 {l : Launch} {p : Program} {e : Env} {s : State} {m : MethodId} {args : Array Value} {below : List Frame} {meth : Method} {c : Code} {E : En} {o : Int64} {res : Int32 × St} (C : Cx p c cX5_late 3 s m args wsX5_late RX5 E) (hr : meth.sig.returnType = (some .int)) (hlocks : meth.locks = false)  (K34 : Int32 → St → Option (Int32 × St)) (hK34 : ∀ (u1 : Int32) (σ : St) (H : Heap) (locs : List Loc) (ls : Array Slot), K34 u1 σ = some res → Iv E (AA E s.heap.size) s.heap o σ H locs → lv_has ls 3 [(1, .int u1)] → WW_X5_late p l e s m args below meth c E o res H locs 0 0 (F0 m 34 ls [])) :
    ∀ (n : Nat) (v1 : Int32) (v2 : Int32) (σ : St) (H : Heap) (locs : List Loc) (ls : Array Slot), f_X5_late_L4 K34 n v1 v2 σ = some res → Iv E (AA E s.heap.size) s.heap o σ H locs → lv_has ls 3 [(0, .ref (ad E 39)), (1, .int v1), (2, .int v2)] → WW_X5_late p l e s m args below meth c E o res H locs 0 0 (F0 m 4 ls []) := by
  have hx := C.1.1
  have hb := C.1.2.1
  intro n
  induction n with
  | zero => intro v1 v2 σ H locs ls hf _ _; cases (show (none : Option (Int32 × St)) = some res from hf)
  | succ n ih =>
    intro v1 v2 σ H locs ls hf I hl
    rw [f_X5_late_L4] at hf
    refine lv_iload_n hx hb dX5_late_4 rfl (lv_at hl 2 rfl) ?_
    refine lv_aload_n hx hb dX5_late_5 rfl (lv_at hl 0 rfl) ?_
    refine g_get (k := 39) (v := .int (σ 39 12)) C I (by decide) (gk_39 E o _) rfl in_X5_late_X5 12 (by decide) (C.1.2.2.2.2 _ k_X5_late_99) rfl dX5_late_6 ?_
    refine lv_icmp_ge (tgt := 34) hx hb dX5_late_9 (by decide) (fun c_1 => ?_) (fun c_1 => ?_)
    · have hf := if_t hf c_1
      exact hK34 v1 σ H locs ls hf I (lv_sub hl [1] rfl)
    · have hf := if_f hf c_1
      refine lv_iload_n hx hb dX5_late_12 rfl (lv_at hl 1 rfl) ?_
      refine lv_aload_n hx hb dX5_late_13 rfl (lv_at hl 0 rfl) ?_
      refine lv_iload_n hx hb dX5_late_14 rfl (lv_at hl 2 rfl) ?_
      obtain ⟨r_2, σ_3, hg_4, hf⟩ := bd_some hf
      refine g_cvi (av := [.int v2]) (rest := [.int v1]) (k := 39) C I AA.new (c_X5_isLate l E o v2 σ hg_4) (cwV 1 C.1.2.2.2.2 gX5_late_X5_isLate rfl rfl rfl (by decide +kernel) ⟨Nat.le_of_ble_eq_true rfl, Nat.le_of_ble_eq_true rfl⟩) (by decide) (gk_39 E o _) rfl rfl rfl hl.1 rfl (Nat.le_of_ble_eq_true rfl) ⟨Nat.le_of_ble_eq_true rfl, Nat.le_of_ble_eq_true rfl⟩ dX5_late_15 (fun H locs I => ?_)
      refine lv_if_eq (tgt := 25) hx hb dX5_late_18 (by decide) (fun c_5 => ?_) (fun c_5 => ?_)
      · have hf := if_t hf c_5
        refine lv_iconst (v := (0 : Int32)) hx hb dX5_late_25 (by decide) ?_
        refine lv_iadd hx hb dX5_late_26 ?_
        refine lv_topi (fun x_6 ex_6 => ?_)
        have hf := lt_at hf ex_6
        refine lv_istore_n (lv' := [(1, .int x_6), (0, .ref (ad E 39)), (2, .int v2)]) hx hb dX5_late_27 rfl hl (by decide) rfl (fun ls hl => ?_)
        obtain ⟨x_7, ex_7⟩ : ∃ y : Int32, y = (v2 + (1 : Int32)) := ⟨_, rfl⟩
        have hf := lt_at hf ex_7
        refine lv_iinc (v := x_7) (lv' := [(2, .int x_7), (1, .int x_6), (0, .ref (ad E 39))]) hx hb dX5_late_28 hl (k := 2) rfl (by rw [ex_7]; rfl) (by decide) rfl (fun ls hl => ?_)
        refine lv_goto (tgt := 4) hx hb dX5_late_31 (by decide) ?_
        exact ih x_6 x_7 σ_3 H locs ls hf I (lv_sub hl [2, 1, 0] rfl)
      · have hf := if_f hf c_5
        refine lv_iconst (v := (1 : Int32)) hx hb dX5_late_21 (by decide) ?_
        refine lv_goto (tgt := 26) hx hb dX5_late_22 (by decide) ?_
        refine lv_iadd hx hb dX5_late_26 ?_
        refine lv_topi (fun x_8 ex_8 => ?_)
        have hf := lt_at hf ex_8
        refine lv_istore_n (lv' := [(1, .int x_8), (0, .ref (ad E 39)), (2, .int v2)]) hx hb dX5_late_27 rfl hl (by decide) rfl (fun ls hl => ?_)
        obtain ⟨x_9, ex_9⟩ : ∃ y : Int32, y = (v2 + (1 : Int32)) := ⟨_, rfl⟩
        have hf := lt_at hf ex_9
        refine lv_iinc (v := x_9) (lv' := [(2, .int x_9), (1, .int x_8), (0, .ref (ad E 39))]) hx hb dX5_late_28 hl (k := 2) rfl (by rw [ex_9]; rfl) (by decide) rfl (fun ls hl => ?_)
        refine lv_goto (tgt := 4) hx hb dX5_late_31 (by decide) ?_
        exact ih x_8 x_9 σ_3 H locs ls hf I (lv_sub hl [2, 1, 0] rfl)
set_option maxHeartbeats 4000000 in
set_option maxRecDepth 100000 in
theorem c_X5_late (l : Launch) (E : En) (o : Int64)  (σ : St) {res : Int32 × St} (hf : f_X5_late σ = some res) : CI l yX5_late wsX5_late rm_X5_late E [.ref (ad E 39)] o σ res.1 res.2 := by
  intro sz
  refine Met.ofW (cc := cX5_late) (maxL := 3) (ret := (some .int)) (by decide) rfl ?_
  intro p e s m args below meth c s₁ B hml hv
  obtain ⟨rfl, hv⟩ := hv
  obtain ⟨rfl, hK, I⟩ := hv.start
  have C : Cx p c cX5_late 3 s m _ wsX5_late RX5 E := ⟨⟨B.exec, B.bytes, hml, findClass_of_methodNamed B.named, atoms_spec (ws := wsX5_late) B.pre⟩, hK⟩
  have hx := C.1.1
  have hb := C.1.2.1
  have hr := B.returns
  have hlocks := B.notSynchronized
  clear hv
  have hl := lv_entry ([.ref (ad E 39)]) (n := 3) (Nat.le_of_ble_eq_true rfl)
  rw [lg_entry_eq]
  generalize (lg_sl ([.ref (ad E 39)]) ++ List.replicate (3 - (lg_sl ([.ref (ad E 39)])).length) Slot.unset).toArray = ls at hl ⊢
  have hl : lv_has ls 3 [(0, .ref (ad E 39))] := hl
  generalize ([.ref (ad E 39)] : List Value).toArray = args at C ⊢
  refine g_begin I (fun H locs I => ?_)
  rw [f_X5_late] at hf
  refine lv_iconst (v := (0 : Int32)) hx hb dX5_late_0 (by decide) ?_
  refine lv_istore_n (lv' := [(1, .int (0 : Int32)), (0, .ref (ad E 39))]) hx hb dX5_late_1 rfl hl (by decide) rfl (fun ls hl => ?_)
  refine lv_iconst (v := (0 : Int32)) hx hb dX5_late_2 (by decide) ?_
  refine lv_istore_n (lv' := [(2, .int (0 : Int32)), (1, .int (0 : Int32)), (0, .ref (ad E 39))]) hx hb dX5_late_3 rfl hl (by decide) rfl (fun ls hl => ?_)
  refine lp_X5_late_4 C hr hlocks _ ?_ _ (0 : Int32) (0 : Int32) σ H locs ls hf I (lv_sub hl [2, 1, 0] rfl)
  · intro y_10 σ_11 H locs ls hf I hl
    refine lv_iload_n hx hb dX5_late_34 rfl (lv_at hl 0 rfl) ?_
    exact g_iret C I hr hlocks hf dX5_late_35
abbrev rm_X5_run : Room := { frames := 4, cells := 0, slots := 0, locals := 98 }
abbrev WW_X5_run (p : Program) (l : Launch) (e : Env) (s : State) (m : MethodId) (args : Array Value) (below : List Frame) (meth : Method) (c : Code) (E : En) (o : Int64) (res : Int32 × St) (H : Heap) (locs : List Loc) (cells slots : Nat) (g : JFrame) : Prop := W p l e (headSpec wsX5_run rm_X5_run).room s m args below meth c H locs cells slots (MQ below (Qi E s.heap.size o res.1 res.2) args s 0 0 (AA E s.heap.size)) g
theorem k_X5_run_83 : Cond.fieldLink RX5 83 "DaySimulateModel" "areas" "I" ∈ wsX5_run := by decide +kernel
theorem in_X5_run_X5 : ∀ w ∈ wsX50, w ∈ wsX5_run := by decide +kernel
set_option maxHeartbeats 4000000 in
set_option maxRecDepth 100000 in
theorem c_X5_run (l : Launch) (E : En) (o : Int64) (a1 : Int32) (a2 : Int32) (a3 : Int32) (a4 : Int32) (σ : St) {res : Int32 × St} (hf : f_X5_run a1 a2 a3 a4 σ = some res) : CI l yX5_run wsX5_run rm_X5_run E [.ref (ad E 39), .int a1, .int a2, .int a3, .int a4] o σ res.1 res.2 := by
  intro sz
  refine Met.ofW (cc := cX5_run) (maxL := 5) (ret := (some .int)) (by decide) rfl ?_
  intro p e s m args below meth c s₁ B hml hv
  obtain ⟨rfl, hv⟩ := hv
  obtain ⟨rfl, hK, I⟩ := hv.start
  have C : Cx p c cX5_run 5 s m _ wsX5_run RX5 E := ⟨⟨B.exec, B.bytes, hml, findClass_of_methodNamed B.named, atoms_spec (ws := wsX5_run) B.pre⟩, hK⟩
  have hx := C.1.1
  have hb := C.1.2.1
  have hr := B.returns
  have hlocks := B.notSynchronized
  clear hv
  have hl := lv_entry ([.ref (ad E 39), .int a1, .int a2, .int a3, .int a4]) (n := 5) (Nat.le_of_ble_eq_true rfl)
  rw [lg_entry_eq]
  generalize (lg_sl ([.ref (ad E 39), .int a1, .int a2, .int a3, .int a4]) ++ List.replicate (5 - (lg_sl ([.ref (ad E 39), .int a1, .int a2, .int a3, .int a4])).length) Slot.unset).toArray = ls at hl ⊢
  have hl : lv_has ls 5 [(0, .ref (ad E 39)), (1, .int a1), (2, .int a2), (3, .int a3), (4, .int a4)] := hl
  generalize ([.ref (ad E 39), .int a1, .int a2, .int a3, .int a4] : List Value).toArray = args at C ⊢
  refine g_begin I (fun H locs I => ?_)
  rw [f_X5_run] at hf
  refine lv_aload_n hx hb dX5_run_0 rfl (lv_at hl 0 rfl) ?_
  refine lv_iload_n hx hb dX5_run_1 rfl (lv_at hl 1 rfl) ?_
  refine lv_iconst (v := (0 : Int32)) hx hb dX5_run_2 (by decide) ?_
  refine lv_iconst (v := (3 : Int32)) hx hb dX5_run_3 (by decide) ?_
  obtain ⟨r_1, σ_2, hg_3, hf⟩ := bd_some hf
  refine g_csi (av := [.int a1, .int (0 : Int32), .int (3 : Int32)]) (rest := [.ref (ad E 39)]) C I AA.new (c_X5_in l E o a1 (0 : Int32) (3 : Int32) σ hg_3) (cwS 3 C.1.2.2.2.2 gX5_run_X5_in rfl rfl rfl (by decide +kernel) ⟨Nat.le_of_ble_eq_true rfl, Nat.le_of_ble_eq_true rfl⟩) rfl hl.1 rfl (Nat.le_of_ble_eq_true rfl) ⟨Nat.le_of_ble_eq_true rfl, Nat.le_of_ble_eq_true rfl⟩ dX5_run_4 (fun H locs I => ?_)
  obtain ⟨J_5, eJ_5, hf⟩ := lt_split hf
  have hJ_5 : ∀ (y_6 : Int32) (σ_7 : St) (H : Heap) (locs : List Loc) (ls : Array Slot), J_5 y_6 σ_7 = some res → Iv E (AA E s.heap.size) s.heap o σ_7 H locs → lv_has ls 5 [(0, .ref (ad E 39)), (1, .int a1), (2, .int a2), (3, .int a3), (4, .int a4)] → WW_X5_run p l e s m args below meth c E o res H locs 0 0 (F0 m 15 ls [.int y_6, .ref (ad E 39)]) := by
    intro y_6 σ_7 H locs ls hf I hl
    rw [eJ_5] at hf
    refine lv_iload_n hx hb dX5_run_15 rfl (lv_at hl 3 rfl) ?_
    obtain ⟨r_8, σ_9, hg_10, hf⟩ := bd_some hf
    refine g_csi (av := [.int a3]) (rest := [.int y_6, .ref (ad E 39)]) C I AA.new (c_X5_isDay l E o a3 σ_7 hg_10) (cwS 1 C.1.2.2.2.2 gX5_run_X5_isDay rfl rfl rfl (by decide +kernel) ⟨Nat.le_of_ble_eq_true rfl, Nat.le_of_ble_eq_true rfl⟩) rfl hl.1 rfl (Nat.le_of_ble_eq_true rfl) ⟨Nat.le_of_ble_eq_true rfl, Nat.le_of_ble_eq_true rfl⟩ dX5_run_16 (fun H locs I => ?_)
    obtain ⟨J_12, eJ_12, hf⟩ := lt_split hf
    have hJ_12 : ∀ (y_17 : Int32) (σ_18 : St) (H : Heap) (locs : List Loc) (ls : Array Slot), J_12 y_17 σ_18 = some res → Iv E (AA E s.heap.size) s.heap o σ_18 H locs → lv_has ls 5 [(0, .ref (ad E 39)), (1, .int a1), (2, .int a2), (3, .int a3), (4, .int a4)] → WW_X5_run p l e s m args below meth c E o res H locs 0 0 (F0 m 38 ls [.int y_17, .int y_6, .ref (ad E 39)]) := by
      intro y_17 σ_18 H locs ls hf I hl
      rw [eJ_12] at hf
      refine lv_iload hx hb dX5_run_38 (lv_at hl 4 rfl) ?_
      obtain ⟨J_20, eJ_20, hf⟩ := lt_split hf
      have hJ_20 : ∀ (y_22 : Int32) (σ_23 : St) (H : Heap) (locs : List Loc) (ls : Array Slot), J_20 y_22 σ_23 = some res → Iv E (AA E s.heap.size) s.heap o σ_23 H locs → lv_has ls 5 [(0, .ref (ad E 39)), (1, .int a1), (2, .int a2), (3, .int a3), (4, .int a4)] → WW_X5_run p l e s m args below meth c E o res H locs 0 0 (F0 m 55 ls [.int y_22, .int y_17, .int y_6, .ref (ad E 39)]) := by
        intro y_22 σ_23 H locs ls hf I hl
        rw [eJ_20] at hf
        obtain ⟨r_24, σ_25, hg_26, hf⟩ := bd_some hf
        refine g_cvi (av := [.int y_6, .int y_17, .int y_22]) (rest := []) (k := 39) C I AA.new (c_X5_throwing l E o y_6 y_17 y_22 σ_23 hg_26) (cwV 3 C.1.2.2.2.2 gX5_run_X5_throwing rfl rfl rfl (by decide +kernel) ⟨Nat.le_of_ble_eq_true rfl, Nat.le_of_ble_eq_true rfl⟩) (by decide) (gk_39 E o _) rfl rfl rfl hl.1 rfl (Nat.le_of_ble_eq_true rfl) ⟨Nat.le_of_ble_eq_true rfl, Nat.le_of_ble_eq_true rfl⟩ dX5_run_55 (fun H locs I => ?_)
        refine lv_if_eq (tgt := 63) hx hb dX5_run_58 (by decide) (fun c_27 => ?_) (fun c_27 => ?_)
        · have hf := if_t hf c_27
          refine lv_aload_n hx hb dX5_run_63 rfl (lv_at hl 0 rfl) ?_
          refine lv_iload_n hx hb dX5_run_64 rfl (lv_at hl 1 rfl) ?_
          refine lv_iload_n hx hb dX5_run_65 rfl (lv_at hl 2 rfl) ?_
          refine lv_iload_n hx hb dX5_run_66 rfl (lv_at hl 3 rfl) ?_
          refine lv_iload hx hb dX5_run_67 (lv_at hl 4 rfl) ?_
          obtain ⟨r_28, σ_29, hg_30, hf⟩ := bd_some hf
          refine g_cvv (av := [.int a1, .int a2, .int a3, .int a4]) (rest := []) (k := 39) C I AA.new (c_X5_play l E o a1 a2 a3 a4 σ_25 hg_30) (cwV 4 C.1.2.2.2.2 gX5_run_X5_play rfl rfl rfl (by decide +kernel) ⟨Nat.le_of_ble_eq_true rfl, Nat.le_of_ble_eq_true rfl⟩) (by decide) (gk_39 E o _) rfl rfl rfl hl.1 rfl (Nat.le_of_ble_eq_true rfl) ⟨Nat.le_of_ble_eq_true rfl, Nat.le_of_ble_eq_true rfl⟩ dX5_run_69 (fun H locs I => ?_)
          refine lv_aload_n hx hb dX5_run_72 rfl (lv_at hl 0 rfl) ?_
          obtain ⟨r_31, σ_32, hg_33, hf⟩ := bd_some hf
          refine g_cvi (av := []) (rest := []) (k := 39) C I AA.new (c_X5_late l E o σ_29 hg_33) (cwV 0 C.1.2.2.2.2 gX5_run_X5_late rfl rfl rfl (by decide +kernel) ⟨Nat.le_of_ble_eq_true rfl, Nat.le_of_ble_eq_true rfl⟩) (by decide) (gk_39 E o _) rfl rfl rfl hl.1 rfl (Nat.le_of_ble_eq_true rfl) ⟨Nat.le_of_ble_eq_true rfl, Nat.le_of_ble_eq_true rfl⟩ dX5_run_73 (fun H locs I => ?_)
          exact g_iret C I hr hlocks hf dX5_run_76
        · have hf := if_f hf c_27
          refine lv_iconst (v := (0 : Int32)) hx hb dX5_run_61 (by decide) ?_
          exact g_iret C I hr hlocks hf dX5_run_62
      refine lv_if_le (tgt := 54) hx hb dX5_run_40 (by decide) (fun c_19 => ?_) (fun c_19 => ?_)
      · have hf := if_t hf c_19
        refine lv_iconst (v := (0 : Int32)) hx hb dX5_run_54 (by decide) ?_
        exact hJ_20 _ σ_18 H locs ls hf I (lv_sub hl [0, 1, 2, 3, 4] rfl)
      · have hf := if_f hf c_19
        refine lv_aload_n hx hb dX5_run_43 rfl (lv_at hl 0 rfl) ?_
        refine g_get (k := 39) (v := .int (σ_18 39 6)) C I (by decide) (gk_39 E o _) rfl in_X5_run_X5 6 (by decide) (C.1.2.2.2.2 _ k_X5_run_83) rfl dX5_run_44 ?_
        refine lv_if_ne (tgt := 54) hx hb dX5_run_47 (by decide) (fun c_21 => ?_) (fun c_21 => ?_)
        · have hf := if_f hf c_21
          refine lv_iconst (v := (0 : Int32)) hx hb dX5_run_54 (by decide) ?_
          exact hJ_20 _ σ_18 H locs ls hf I (lv_sub hl [0, 1, 2, 3, 4] rfl)
        · have hf := if_t hf c_21
          refine lv_iconst (v := (1 : Int32)) hx hb dX5_run_50 (by decide) ?_
          refine lv_goto (tgt := 55) hx hb dX5_run_51 (by decide) ?_
          exact hJ_20 _ σ_18 H locs ls hf I (lv_sub hl [0, 1, 2, 3, 4] rfl)
    refine lv_if_eq (tgt := 33) hx hb dX5_run_19 (by decide) (fun c_11 => ?_) (fun c_11 => ?_)
    · have hf := if_t hf c_11
      refine lv_iconst (v := (1 : Int32)) hx hb dX5_run_33 (by decide) ?_
      refine lv_goto (tgt := 38) hx hb dX5_run_34 (by decide) ?_
      exact hJ_12 _ σ_9 H locs ls hf I (lv_sub hl [0, 1, 2, 3, 4] rfl)
    · have hf := if_f hf c_11
      refine lv_iload hx hb dX5_run_22 (lv_at hl 4 rfl) ?_
      refine lv_iconst (v := (0 : Int32)) hx hb dX5_run_24 (by decide) ?_
      refine lv_bipush (v := (60 : Int32)) hx hb dX5_run_25 (by decide) ?_
      obtain ⟨r_13, σ_14, hg_15, hf⟩ := bd_some hf
      refine g_csi (av := [.int a4, .int (0 : Int32), .int (60 : Int32)]) (rest := [.int y_6, .ref (ad E 39)]) C I AA.new (c_X5_in l E o a4 (0 : Int32) (60 : Int32) σ_9 hg_15) (cwS 3 C.1.2.2.2.2 gX5_run_X5_in rfl rfl rfl (by decide +kernel) ⟨Nat.le_of_ble_eq_true rfl, Nat.le_of_ble_eq_true rfl⟩) rfl hl.1 rfl (Nat.le_of_ble_eq_true rfl) ⟨Nat.le_of_ble_eq_true rfl, Nat.le_of_ble_eq_true rfl⟩ dX5_run_27 (fun H locs I => ?_)
      refine lv_if_ne (tgt := 37) hx hb dX5_run_30 (by decide) (fun c_16 => ?_) (fun c_16 => ?_)
      · have hf := if_f hf c_16
        refine lv_iconst (v := (0 : Int32)) hx hb dX5_run_37 (by decide) ?_
        exact hJ_12 _ σ_14 H locs ls hf I (lv_sub hl [0, 1, 2, 3, 4] rfl)
      · have hf := if_t hf c_16
        refine lv_iconst (v := (1 : Int32)) hx hb dX5_run_33 (by decide) ?_
        refine lv_goto (tgt := 38) hx hb dX5_run_34 (by decide) ?_
        exact hJ_12 _ σ_14 H locs ls hf I (lv_sub hl [0, 1, 2, 3, 4] rfl)
  refine lv_if_ne (tgt := 14) hx hb dX5_run_7 (by decide) (fun c_4 => ?_) (fun c_4 => ?_)
  · have hf := if_f hf c_4
    refine lv_iconst (v := (0 : Int32)) hx hb dX5_run_14 (by decide) ?_
    exact hJ_5 _ σ_2 H locs ls hf I (lv_sub hl [0, 1, 2, 3, 4] rfl)
  · have hf := if_t hf c_4
    refine lv_iconst (v := (1 : Int32)) hx hb dX5_run_10 (by decide) ?_
    refine lv_goto (tgt := 15) hx hb dX5_run_11 (by decide) ?_
    exact hJ_5 _ σ_2 H locs ls hf I (lv_sub hl [0, 1, 2, 3, 4] rfl)
abbrev rm_X5_reason : Room := { frames := 1, cells := 0, slots := 0, locals := 21 }
abbrev WW_X5_reason (p : Program) (l : Launch) (e : Env) (s : State) (m : MethodId) (args : Array Value) (below : List Frame) (meth : Method) (c : Code) (E : En) (o : Int64) (res : Int32 × St) (H : Heap) (locs : List Loc) (cells slots : Nat) (g : JFrame) : Prop := W p l e (headSpec wsX5_reason rm_X5_reason).room s m args below meth c H locs cells slots (MQ below (Qi E s.heap.size o res.1 res.2) args s 0 0 (AA E s.heap.size)) g
theorem k_X5_reason_13 : Cond.fieldLink RX5 13 "DaySimulateModel" "mark" "I" ∈ wsX5_reason := by decide +kernel
theorem k_X5_reason_53 : Cond.fieldLink RX5 53 "DaySimulateModel" "way" "[I" ∈ wsX5_reason := by decide +kernel
theorem k_X5_reason_47 : Cond.fieldLink RX5 47 "DaySimulateModel" "unit" "[I" ∈ wsX5_reason := by decide +kernel
theorem in_X5_reason_X5 : ∀ w ∈ wsX50, w ∈ wsX5_reason := by decide +kernel
set_option maxHeartbeats 4000000 in
set_option maxRecDepth 100000 in
theorem c_X5_reason (l : Launch) (E : En) (o : Int64) (a1 : Int32) (σ : St) {res : Int32 × St} (hf : f_X5_reason a1 σ = some res) : CI l yX5_reason wsX5_reason rm_X5_reason E [.ref (ad E 39), .int a1] o σ res.1 res.2 := by
  intro sz
  refine Met.ofW (cc := cX5_reason) (maxL := 2) (ret := (some .int)) (by decide) rfl ?_
  intro p e s m args below meth c s₁ B hml hv
  obtain ⟨rfl, hv⟩ := hv
  obtain ⟨rfl, hK, I⟩ := hv.start
  have C : Cx p c cX5_reason 2 s m _ wsX5_reason RX5 E := ⟨⟨B.exec, B.bytes, hml, findClass_of_methodNamed B.named, atoms_spec (ws := wsX5_reason) B.pre⟩, hK⟩
  have hx := C.1.1
  have hb := C.1.2.1
  have hr := B.returns
  have hlocks := B.notSynchronized
  clear hv
  have hl := lv_entry ([.ref (ad E 39), .int a1]) (n := 2) (Nat.le_of_ble_eq_true rfl)
  rw [lg_entry_eq]
  generalize (lg_sl ([.ref (ad E 39), .int a1]) ++ List.replicate (2 - (lg_sl ([.ref (ad E 39), .int a1])).length) Slot.unset).toArray = ls at hl ⊢
  have hl : lv_has ls 2 [(0, .ref (ad E 39)), (1, .int a1)] := hl
  generalize ([.ref (ad E 39), .int a1] : List Value).toArray = args at C ⊢
  refine g_begin I (fun H locs I => ?_)
  rw [f_X5_reason] at hf
  refine lv_aload_n hx hb dX5_reason_0 rfl (lv_at hl 0 rfl) ?_
  refine lv_iload_n hx hb dX5_reason_1 rfl (lv_at hl 1 rfl) ?_
  obtain ⟨r_1, σ_2, hg_3, hf⟩ := bd_some hf
  refine g_cvi (av := [.int a1]) (rest := []) (k := 39) C I AA.new (c_X5_isLate l E o a1 σ hg_3) (cwV 1 C.1.2.2.2.2 gX5_reason_X5_isLate rfl rfl rfl (by decide +kernel) ⟨Nat.le_of_ble_eq_true rfl, Nat.le_of_ble_eq_true rfl⟩) (by decide) (gk_39 E o _) rfl rfl rfl hl.1 rfl (Nat.le_of_ble_eq_true rfl) ⟨Nat.le_of_ble_eq_true rfl, Nat.le_of_ble_eq_true rfl⟩ dX5_reason_2 (fun H locs I => ?_)
  refine lv_if_ne (tgt := 10) hx hb dX5_reason_5 (by decide) (fun c_4 => ?_) (fun c_4 => ?_)
  · have hf := if_f hf c_4
    refine lv_aload_n hx hb dX5_reason_10 rfl (lv_at hl 0 rfl) ?_
    refine g_get (k := 39) (v := .ref (ad E 50)) C I (by decide) (gk_39 E o _) rfl in_X5_reason_X5 17 (by decide) (C.1.2.2.2.2 _ k_X5_reason_47) rfl dX5_reason_11 ?_
    refine lv_iload_n hx hb dX5_reason_14 rfl (lv_at hl 1 rfl) ?_
    obtain ⟨h_5, hf⟩ := ck_some hf
    refine g_iald (k := 50) C I (by decide) (gk_50 E o) (ixb_in h_5) dX5_reason_15 ?_
    refine lv_if_ge (tgt := 23) hx hb dX5_reason_16 (by decide) (fun c_6 => ?_) (fun c_6 => ?_)
    · have hf := if_t hf c_6
      refine lv_aload_n hx hb dX5_reason_23 rfl (lv_at hl 0 rfl) ?_
      refine g_get (k := 39) (v := .ref (ad E 52)) C I (by decide) (gk_39 E o _) rfl in_X5_reason_X5 19 (by decide) (C.1.2.2.2.2 _ k_X5_reason_53) rfl dX5_reason_24 ?_
      refine lv_iload_n hx hb dX5_reason_27 rfl (lv_at hl 1 rfl) ?_
      obtain ⟨h_7, hf⟩ := ck_some hf
      refine g_iald (k := 52) C I (by decide) (gk_52 E o) (ixb_in h_7) dX5_reason_28 ?_
      refine lv_aload_n hx hb dX5_reason_29 rfl (lv_at hl 0 rfl) ?_
      refine g_get (k := 39) (v := .int (σ_2 39 2)) C I (by decide) (gk_39 E o _) rfl in_X5_reason_X5 2 (by decide) (C.1.2.2.2.2 _ k_X5_reason_13) rfl dX5_reason_30 ?_
      refine lv_icmp_le (tgt := 40) hx hb dX5_reason_33 (by decide) (fun c_8 => ?_) (fun c_8 => ?_)
      · have hf := if_t hf c_8
        refine lv_iconst (v := (1 : Int32)) hx hb dX5_reason_40 (by decide) ?_
        exact g_iret C I hr hlocks hf dX5_reason_41
      · have hf := if_f hf c_8
        refine lv_iconst (v := (2 : Int32)) hx hb dX5_reason_36 (by decide) ?_
        refine lv_goto (tgt := 41) hx hb dX5_reason_37 (by decide) ?_
        exact g_iret C I hr hlocks hf dX5_reason_41
    · have hf := if_f hf c_6
      refine lv_iconst (v := (3 : Int32)) hx hb dX5_reason_19 (by decide) ?_
      refine lv_goto (tgt := 41) hx hb dX5_reason_20 (by decide) ?_
      exact g_iret C I hr hlocks hf dX5_reason_41
  · have hf := if_t hf c_4
    refine lv_iconst (v := (0 : Int32)) hx hb dX5_reason_8 (by decide) ?_
    exact g_iret C I hr hlocks hf dX5_reason_9
abbrev rm_X5_call : Room := { frames := 2, cells := 0, slots := 0, locals := 42 }
abbrev WW_X5_call (p : Program) (l : Launch) (e : Env) (s : State) (m : MethodId) (args : Array Value) (below : List Frame) (meth : Method) (c : Code) (E : En) (o : Int64) (res : Int32 × St) (H : Heap) (locs : List Loc) (cells slots : Nat) (g : JFrame) : Prop := W p l e (headSpec wsX5_call rm_X5_call).room s m args below meth c H locs cells slots (MQ below (Qi E s.heap.size o res.1 res.2) args s 0 0 (AA E s.heap.size)) g
theorem k_X5_call_35 : Cond.fieldLink RX5 35 "DaySimulateModel" "minute" "[I" ∈ wsX5_call := by decide +kernel
theorem k_X5_call_38 : Cond.fieldLink RX5 38 "DaySimulateModel" "place" "[I" ∈ wsX5_call := by decide +kernel
theorem k_X5_call_41 : Cond.fieldLink RX5 41 "DaySimulateModel" "rank" "[I" ∈ wsX5_call := by decide +kernel
theorem k_X5_call_47 : Cond.fieldLink RX5 47 "DaySimulateModel" "unit" "[I" ∈ wsX5_call := by decide +kernel
theorem k_X5_call_50 : Cond.fieldLink RX5 50 "DaySimulateModel" "came" "[I" ∈ wsX5_call := by decide +kernel
theorem k_X5_call_99 : Cond.fieldLink RX5 99 "DaySimulateModel" "calls" "I" ∈ wsX5_call := by decide +kernel
theorem in_X5_call_X5 : ∀ w ∈ wsX50, w ∈ wsX5_call := by decide +kernel
set_option maxHeartbeats 4000000 in
set_option maxRecDepth 100000 in
theorem c_X5_call (l : Launch) (E : En) (o : Int64) (a1 : Int32) (a2 : Int32) (σ : St) {res : Int32 × St} (hf : f_X5_call a1 a2 σ = some res) : CI l yX5_call wsX5_call rm_X5_call E [.ref (ad E 39), .int a1, .int a2] o σ res.1 res.2 := by
  intro sz
  refine Met.ofW (cc := cX5_call) (maxL := 3) (ret := (some .int)) (by decide) rfl ?_
  intro p e s m args below meth c s₁ B hml hv
  obtain ⟨rfl, hv⟩ := hv
  obtain ⟨rfl, hK, I⟩ := hv.start
  have C : Cx p c cX5_call 3 s m _ wsX5_call RX5 E := ⟨⟨B.exec, B.bytes, hml, findClass_of_methodNamed B.named, atoms_spec (ws := wsX5_call) B.pre⟩, hK⟩
  have hx := C.1.1
  have hb := C.1.2.1
  have hr := B.returns
  have hlocks := B.notSynchronized
  clear hv
  have hl := lv_entry ([.ref (ad E 39), .int a1, .int a2]) (n := 3) (Nat.le_of_ble_eq_true rfl)
  rw [lg_entry_eq]
  generalize (lg_sl ([.ref (ad E 39), .int a1, .int a2]) ++ List.replicate (3 - (lg_sl ([.ref (ad E 39), .int a1, .int a2])).length) Slot.unset).toArray = ls at hl ⊢
  have hl : lv_has ls 3 [(0, .ref (ad E 39)), (1, .int a1), (2, .int a2)] := hl
  generalize ([.ref (ad E 39), .int a1, .int a2] : List Value).toArray = args at C ⊢
  refine g_begin I (fun H locs I => ?_)
  rw [f_X5_call] at hf
  refine lv_aload_n hx hb dX5_call_0 rfl (lv_at hl 0 rfl) ?_
  refine lv_iload_n hx hb dX5_call_1 rfl (lv_at hl 1 rfl) ?_
  refine lv_iconst (v := (0 : Int32)) hx hb dX5_call_2 (by decide) ?_
  refine lv_aload_n hx hb dX5_call_3 rfl (lv_at hl 0 rfl) ?_
  refine g_get (k := 39) (v := .int (σ 39 12)) C I (by decide) (gk_39 E o _) rfl in_X5_call_X5 12 (by decide) (C.1.2.2.2.2 _ k_X5_call_99) rfl dX5_call_4 ?_
  refine lv_iconst (v := (1 : Int32)) hx hb dX5_call_7 (by decide) ?_
  refine lv_isub hx hb dX5_call_8 ?_
  obtain ⟨r_1, σ_2, hg_3, hf⟩ := bd_some hf
  refine g_csi (av := [.int a1, .int (0 : Int32), .int ((σ 39 12) - (1 : Int32))]) (rest := [.ref (ad E 39)]) C I AA.new (c_X5_in l E o a1 (0 : Int32) (((σ 39 12) - (1 : Int32))) σ hg_3) (cwS 3 C.1.2.2.2.2 gX5_call_X5_in rfl rfl rfl (by decide +kernel) ⟨Nat.le_of_ble_eq_true rfl, Nat.le_of_ble_eq_true rfl⟩) rfl hl.1 rfl (Nat.le_of_ble_eq_true rfl) ⟨Nat.le_of_ble_eq_true rfl, Nat.le_of_ble_eq_true rfl⟩ dX5_call_9 (fun H locs I => ?_)
  obtain ⟨J_5, eJ_5, hf⟩ := lt_split hf
  have hJ_5 : ∀ (y_10 : Int32) (σ_11 : St) (H : Heap) (locs : List Loc) (ls : Array Slot), J_5 y_10 σ_11 = some res → Iv E (AA E s.heap.size) s.heap o σ_11 H locs → lv_has ls 3 [(0, .ref (ad E 39)), (1, .int a1), (2, .int a2)] → WW_X5_call p l e s m args below meth c E o res H locs 0 0 (F0 m 29 ls [.int y_10, .ref (ad E 39)]) := by
    intro y_10 σ_11 H locs ls hf I hl
    rw [eJ_5] at hf
    refine lv_iconst (v := (0 : Int32)) hx hb dX5_call_29 (by decide) ?_
    refine lv_iconst (v := (0 : Int32)) hx hb dX5_call_30 (by decide) ?_
    obtain ⟨r_12, σ_13, hg_14, hf⟩ := bd_some hf
    refine g_cvi (av := [.int y_10, .int (0 : Int32), .int (0 : Int32)]) (rest := []) (k := 39) C I AA.new (c_X5_throwing l E o y_10 (0 : Int32) (0 : Int32) σ_11 hg_14) (cwV 3 C.1.2.2.2.2 gX5_call_X5_throwing rfl rfl rfl (by decide +kernel) ⟨Nat.le_of_ble_eq_true rfl, Nat.le_of_ble_eq_true rfl⟩) (by decide) (gk_39 E o _) rfl rfl rfl hl.1 rfl (Nat.le_of_ble_eq_true rfl) ⟨Nat.le_of_ble_eq_true rfl, Nat.le_of_ble_eq_true rfl⟩ dX5_call_31 (fun H locs I => ?_)
    refine lv_if_eq (tgt := 39) hx hb dX5_call_34 (by decide) (fun c_15 => ?_) (fun c_15 => ?_)
    · have hf := if_t hf c_15
      refine lv_iload_n hx hb dX5_call_39 rfl (lv_at hl 2 rfl) ?_
      by_cases c_16 : a2 = (0 : Int32)
      · have hf := if_t hf c_16
        refine lv_tableIn (tgt := 76) (off := 36) hx hb dX5_call_40 (by rw [c_16]; decide) (by rw [c_16]; decide) (by rw [c_16]; rfl) (by decide) ?_
        refine lv_aload_n hx hb dX5_call_76 rfl (lv_at hl 0 rfl) ?_
        refine g_get (k := 39) (v := .ref (ad E 46)) C I (by decide) (gk_39 E o _) rfl in_X5_call_X5 13 (by decide) (C.1.2.2.2.2 _ k_X5_call_35) rfl dX5_call_77 ?_
        refine lv_iload_n hx hb dX5_call_80 rfl (lv_at hl 1 rfl) ?_
        obtain ⟨h_21, hf⟩ := ck_some hf
        refine g_iald (k := 46) C I (by decide) (gk_46 E o) (ixb_in h_21) dX5_call_81 ?_
        exact g_iret C I hr hlocks hf dX5_call_82
      · have hf := if_f hf c_16
        by_cases c_17 : a2 = (1 : Int32)
        · have hf := if_t hf c_17
          refine lv_tableIn (tgt := 83) (off := 43) hx hb dX5_call_40 (by rw [c_17]; decide) (by rw [c_17]; decide) (by rw [c_17]; rfl) (by decide) ?_
          refine lv_aload_n hx hb dX5_call_83 rfl (lv_at hl 0 rfl) ?_
          refine g_get (k := 39) (v := .ref (ad E 47)) C I (by decide) (gk_39 E o _) rfl in_X5_call_X5 14 (by decide) (C.1.2.2.2.2 _ k_X5_call_38) rfl dX5_call_84 ?_
          refine lv_iload_n hx hb dX5_call_87 rfl (lv_at hl 1 rfl) ?_
          obtain ⟨h_22, hf⟩ := ck_some hf
          refine g_iald (k := 47) C I (by decide) (gk_47 E o) (ixb_in h_22) dX5_call_88 ?_
          exact g_iret C I hr hlocks hf dX5_call_89
        · have hf := if_f hf c_17
          by_cases c_18 : a2 = (2 : Int32)
          · have hf := if_t hf c_18
            refine lv_tableIn (tgt := 90) (off := 50) hx hb dX5_call_40 (by rw [c_18]; decide) (by rw [c_18]; decide) (by rw [c_18]; rfl) (by decide) ?_
            refine lv_aload_n hx hb dX5_call_90 rfl (lv_at hl 0 rfl) ?_
            refine g_get (k := 39) (v := .ref (ad E 48)) C I (by decide) (gk_39 E o _) rfl in_X5_call_X5 15 (by decide) (C.1.2.2.2.2 _ k_X5_call_41) rfl dX5_call_91 ?_
            refine lv_iload_n hx hb dX5_call_94 rfl (lv_at hl 1 rfl) ?_
            obtain ⟨h_23, hf⟩ := ck_some hf
            refine g_iald (k := 48) C I (by decide) (gk_48 E o) (ixb_in h_23) dX5_call_95 ?_
            exact g_iret C I hr hlocks hf dX5_call_96
          · have hf := if_f hf c_18
            by_cases c_19 : a2 = (3 : Int32)
            · have hf := if_t hf c_19
              refine lv_tableIn (tgt := 97) (off := 57) hx hb dX5_call_40 (by rw [c_19]; decide) (by rw [c_19]; decide) (by rw [c_19]; rfl) (by decide) ?_
              refine lv_aload_n hx hb dX5_call_97 rfl (lv_at hl 0 rfl) ?_
              refine g_get (k := 39) (v := .ref (ad E 50)) C I (by decide) (gk_39 E o _) rfl in_X5_call_X5 17 (by decide) (C.1.2.2.2.2 _ k_X5_call_47) rfl dX5_call_98 ?_
              refine lv_iload_n hx hb dX5_call_101 rfl (lv_at hl 1 rfl) ?_
              obtain ⟨h_24, hf⟩ := ck_some hf
              refine g_iald (k := 50) C I (by decide) (gk_50 E o) (ixb_in h_24) dX5_call_102 ?_
              exact g_iret C I hr hlocks hf dX5_call_103
            · have hf := if_f hf c_19
              by_cases c_20 : a2 = (4 : Int32)
              · have hf := if_t hf c_20
                refine lv_tableIn (tgt := 104) (off := 64) hx hb dX5_call_40 (by rw [c_20]; decide) (by rw [c_20]; decide) (by rw [c_20]; rfl) (by decide) ?_
                refine lv_aload_n hx hb dX5_call_104 rfl (lv_at hl 0 rfl) ?_
                refine g_get (k := 39) (v := .ref (ad E 50)) C I (by decide) (gk_39 E o _) rfl in_X5_call_X5 17 (by decide) (C.1.2.2.2.2 _ k_X5_call_47) rfl dX5_call_105 ?_
                refine lv_iload_n hx hb dX5_call_108 rfl (lv_at hl 1 rfl) ?_
                obtain ⟨h_25, hf⟩ := ck_some hf
                refine g_iald (k := 50) C I (by decide) (gk_50 E o) (ixb_in h_25) dX5_call_109 ?_
                refine lv_if_ge (tgt := 117) hx hb dX5_call_110 (by decide) (fun c_26 => ?_) (fun c_26 => ?_)
                · have hf := if_t hf c_26
                  refine lv_aload_n hx hb dX5_call_117 rfl (lv_at hl 0 rfl) ?_
                  refine g_get (k := 39) (v := .ref (ad E 51)) C I (by decide) (gk_39 E o _) rfl in_X5_call_X5 18 (by decide) (C.1.2.2.2.2 _ k_X5_call_50) rfl dX5_call_118 ?_
                  refine lv_iload_n hx hb dX5_call_121 rfl (lv_at hl 1 rfl) ?_
                  obtain ⟨h_27, hf⟩ := ck_some hf
                  refine g_iald (k := 51) C I (by decide) (gk_51 E o) (ixb_in h_27) dX5_call_122 ?_
                  refine lv_aload_n hx hb dX5_call_123 rfl (lv_at hl 0 rfl) ?_
                  refine g_get (k := 39) (v := .ref (ad E 46)) C I (by decide) (gk_39 E o _) rfl in_X5_call_X5 13 (by decide) (C.1.2.2.2.2 _ k_X5_call_35) rfl dX5_call_124 ?_
                  refine lv_iload_n hx hb dX5_call_127 rfl (lv_at hl 1 rfl) ?_
                  obtain ⟨h_28, hf⟩ := ck_some hf
                  refine g_iald (k := 46) C I (by decide) (gk_46 E o) (ixb_in h_28) dX5_call_128 ?_
                  refine lv_isub hx hb dX5_call_129 ?_
                  exact g_iret C I hr hlocks hf dX5_call_130
                · have hf := if_f hf c_26
                  refine lv_iconst (v := (-1 : Int32)) hx hb dX5_call_113 (by decide) ?_
                  refine lv_goto (tgt := 130) hx hb dX5_call_114 (by decide) ?_
                  exact g_iret C I hr hlocks hf dX5_call_130
              · have hf := if_f hf c_20
                refine lv_tableOut (tgt := 131) hx hb dX5_call_40 (sw_out 4 (fun k hk => by match k, hk with | 0, _ => exact c_16 | 1, _ => exact c_17 | 2, _ => exact c_18 | 3, _ => exact c_19 | 4, _ => exact c_20)) (by decide) ?_
                refine lv_aload_n hx hb dX5_call_131 rfl (lv_at hl 0 rfl) ?_
                refine lv_iload_n hx hb dX5_call_132 rfl (lv_at hl 1 rfl) ?_
                obtain ⟨r_29, σ_30, hg_31, hf⟩ := bd_some hf
                refine g_cvi (av := [.int a1]) (rest := []) (k := 39) C I AA.new (c_X5_reason l E o a1 σ_13 hg_31) (cwV 1 C.1.2.2.2.2 gX5_call_X5_reason rfl rfl rfl (by decide +kernel) ⟨Nat.le_of_ble_eq_true rfl, Nat.le_of_ble_eq_true rfl⟩) (by decide) (gk_39 E o _) rfl rfl rfl hl.1 rfl (Nat.le_of_ble_eq_true rfl) ⟨Nat.le_of_ble_eq_true rfl, Nat.le_of_ble_eq_true rfl⟩ dX5_call_133 (fun H locs I => ?_)
                exact g_iret C I hr hlocks hf dX5_call_136
    · have hf := if_f hf c_15
      refine lv_iconst (v := (0 : Int32)) hx hb dX5_call_37 (by decide) ?_
      exact g_iret C I hr hlocks hf dX5_call_38
  refine lv_if_eq (tgt := 24) hx hb dX5_call_12 (by decide) (fun c_4 => ?_) (fun c_4 => ?_)
  · have hf := if_t hf c_4
    refine lv_iconst (v := (1 : Int32)) hx hb dX5_call_24 (by decide) ?_
    refine lv_goto (tgt := 29) hx hb dX5_call_25 (by decide) ?_
    exact hJ_5 _ σ_2 H locs ls hf I (lv_sub hl [0, 1, 2] rfl)
  · have hf := if_f hf c_4
    refine lv_iload_n hx hb dX5_call_15 rfl (lv_at hl 2 rfl) ?_
    refine lv_iconst (v := (0 : Int32)) hx hb dX5_call_16 (by decide) ?_
    refine lv_iconst (v := (5 : Int32)) hx hb dX5_call_17 (by decide) ?_
    obtain ⟨r_6, σ_7, hg_8, hf⟩ := bd_some hf
    refine g_csi (av := [.int a2, .int (0 : Int32), .int (5 : Int32)]) (rest := [.ref (ad E 39)]) C I AA.new (c_X5_in l E o a2 (0 : Int32) (5 : Int32) σ_2 hg_8) (cwS 3 C.1.2.2.2.2 gX5_call_X5_in rfl rfl rfl (by decide +kernel) ⟨Nat.le_of_ble_eq_true rfl, Nat.le_of_ble_eq_true rfl⟩) rfl hl.1 rfl (Nat.le_of_ble_eq_true rfl) ⟨Nat.le_of_ble_eq_true rfl, Nat.le_of_ble_eq_true rfl⟩ dX5_call_18 (fun H locs I => ?_)
    refine lv_if_ne (tgt := 28) hx hb dX5_call_21 (by decide) (fun c_9 => ?_) (fun c_9 => ?_)
    · have hf := if_f hf c_9
      refine lv_iconst (v := (0 : Int32)) hx hb dX5_call_28 (by decide) ?_
      exact hJ_5 _ σ_7 H locs ls hf I (lv_sub hl [0, 1, 2] rfl)
    · have hf := if_t hf c_9
      refine lv_iconst (v := (1 : Int32)) hx hb dX5_call_24 (by decide) ?_
      refine lv_goto (tgt := 29) hx hb dX5_call_25 (by decide) ?_
      exact hJ_5 _ σ_7 H locs ls hf I (lv_sub hl [0, 1, 2] rfl)
abbrev rm_X5_share : Room := { frames := 2, cells := 0, slots := 0, locals := 43 }
abbrev WW_X5_share (p : Program) (l : Launch) (e : Env) (s : State) (m : MethodId) (args : Array Value) (below : List Frame) (meth : Method) (c : Code) (E : En) (o : Int64) (res : Int32 × St) (H : Heap) (locs : List Loc) (cells slots : Nat) (g : JFrame) : Prop := W p l e (headSpec wsX5_share rm_X5_share).room s m args below meth c H locs cells slots (MQ below (Qi E s.heap.size o res.1 res.2) args s 0 0 (AA E s.heap.size)) g
theorem k_X5_share_99 : Cond.fieldLink RX5 99 "DaySimulateModel" "calls" "I" ∈ wsX5_share := by decide +kernel
theorem in_X5_share_X5 : ∀ w ∈ wsX50, w ∈ wsX5_share := by decide +kernel
set_option maxHeartbeats 4000000 in
set_option maxRecDepth 100000 in
theorem c_X5_share (l : Launch) (E : En) (o : Int64) (a1 : Int32) (σ : St) {res : Int32 × St} (hf : f_X5_share a1 σ = some res) : CI l yX5_share wsX5_share rm_X5_share E [.ref (ad E 39), .int a1] o σ res.1 res.2 := by
  intro sz
  refine Met.ofW (cc := cX5_share) (maxL := 3) (ret := (some .int)) (by decide) rfl ?_
  intro p e s m args below meth c s₁ B hml hv
  obtain ⟨rfl, hv⟩ := hv
  obtain ⟨rfl, hK, I⟩ := hv.start
  have C : Cx p c cX5_share 3 s m _ wsX5_share RX5 E := ⟨⟨B.exec, B.bytes, hml, findClass_of_methodNamed B.named, atoms_spec (ws := wsX5_share) B.pre⟩, hK⟩
  have hx := C.1.1
  have hb := C.1.2.1
  have hr := B.returns
  have hlocks := B.notSynchronized
  clear hv
  have hl := lv_entry ([.ref (ad E 39), .int a1]) (n := 3) (Nat.le_of_ble_eq_true rfl)
  rw [lg_entry_eq]
  generalize (lg_sl ([.ref (ad E 39), .int a1]) ++ List.replicate (3 - (lg_sl ([.ref (ad E 39), .int a1])).length) Slot.unset).toArray = ls at hl ⊢
  have hl : lv_has ls 3 [(0, .ref (ad E 39)), (1, .int a1)] := hl
  generalize ([.ref (ad E 39), .int a1] : List Value).toArray = args at C ⊢
  refine g_begin I (fun H locs I => ?_)
  rw [f_X5_share] at hf
  refine lv_aload_n hx hb dX5_share_0 rfl (lv_at hl 0 rfl) ?_
  refine lv_iload_n hx hb dX5_share_1 rfl (lv_at hl 1 rfl) ?_
  refine lv_iconst (v := (0 : Int32)) hx hb dX5_share_2 (by decide) ?_
  refine lv_iconst (v := (1 : Int32)) hx hb dX5_share_3 (by decide) ?_
  obtain ⟨r_1, σ_2, hg_3, hf⟩ := bd_some hf
  refine g_csi (av := [.int a1, .int (0 : Int32), .int (1 : Int32)]) (rest := [.ref (ad E 39)]) C I AA.new (c_X5_in l E o a1 (0 : Int32) (1 : Int32) σ hg_3) (cwS 3 C.1.2.2.2.2 gX5_share_X5_in rfl rfl rfl (by decide +kernel) ⟨Nat.le_of_ble_eq_true rfl, Nat.le_of_ble_eq_true rfl⟩) rfl hl.1 rfl (Nat.le_of_ble_eq_true rfl) ⟨Nat.le_of_ble_eq_true rfl, Nat.le_of_ble_eq_true rfl⟩ dX5_share_4 (fun H locs I => ?_)
  obtain ⟨J_5, eJ_5, hf⟩ := lt_split hf
  have hJ_5 : ∀ (y_6 : Int32) (σ_7 : St) (H : Heap) (locs : List Loc) (ls : Array Slot), J_5 y_6 σ_7 = some res → Iv E (AA E s.heap.size) s.heap o σ_7 H locs → lv_has ls 3 [(0, .ref (ad E 39)), (1, .int a1)] → WW_X5_share p l e s m args below meth c E o res H locs 0 0 (F0 m 15 ls [.int y_6, .ref (ad E 39)]) := by
    intro y_6 σ_7 H locs ls hf I hl
    rw [eJ_5] at hf
    refine lv_aload_n hx hb dX5_share_15 rfl (lv_at hl 0 rfl) ?_
    refine g_get (k := 39) (v := .int (σ_7 39 12)) C I (by decide) (gk_39 E o _) rfl in_X5_share_X5 12 (by decide) (C.1.2.2.2.2 _ k_X5_share_99) rfl dX5_share_16 ?_
    obtain ⟨J_9, eJ_9, hf⟩ := lt_split hf
    have hJ_9 : ∀ (y_10 : Int32) (σ_11 : St) (H : Heap) (locs : List Loc) (ls : Array Slot), J_9 y_10 σ_11 = some res → Iv E (AA E s.heap.size) s.heap o σ_11 H locs → lv_has ls 3 [(0, .ref (ad E 39)), (1, .int a1)] → WW_X5_share p l e s m args below meth c E o res H locs 0 0 (F0 m 27 ls [.int y_10, .int y_6, .ref (ad E 39)]) := by
      intro y_10 σ_11 H locs ls hf I hl
      rw [eJ_9] at hf
      refine lv_iconst (v := (0 : Int32)) hx hb dX5_share_27 (by decide) ?_
      obtain ⟨r_12, σ_13, hg_14, hf⟩ := bd_some hf
      refine g_cvi (av := [.int y_6, .int y_10, .int (0 : Int32)]) (rest := []) (k := 39) C I AA.new (c_X5_throwing l E o y_6 y_10 (0 : Int32) σ_11 hg_14) (cwV 3 C.1.2.2.2.2 gX5_share_X5_throwing rfl rfl rfl (by decide +kernel) ⟨Nat.le_of_ble_eq_true rfl, Nat.le_of_ble_eq_true rfl⟩) (by decide) (gk_39 E o _) rfl rfl rfl hl.1 rfl (Nat.le_of_ble_eq_true rfl) ⟨Nat.le_of_ble_eq_true rfl, Nat.le_of_ble_eq_true rfl⟩ dX5_share_28 (fun H locs I => ?_)
      refine lv_if_eq (tgt := 36) hx hb dX5_share_31 (by decide) (fun c_15 => ?_) (fun c_15 => ?_)
      · have hf := if_t hf c_15
        refine lv_aload_n hx hb dX5_share_36 rfl (lv_at hl 0 rfl) ?_
        refine g_get (k := 39) (v := .int (σ_13 39 12)) C I (by decide) (gk_39 E o _) rfl in_X5_share_X5 12 (by decide) (C.1.2.2.2.2 _ k_X5_share_99) rfl dX5_share_37 ?_
        refine lv_aload_n hx hb dX5_share_40 rfl (lv_at hl 0 rfl) ?_
        obtain ⟨r_16, σ_17, hg_18, hf⟩ := bd_some hf
        refine g_cvi (av := []) (rest := [.int (σ_13 39 12)]) (k := 39) C I AA.new (c_X5_late l E o σ_13 hg_18) (cwV 0 C.1.2.2.2.2 gX5_share_X5_late rfl rfl rfl (by decide +kernel) ⟨Nat.le_of_ble_eq_true rfl, Nat.le_of_ble_eq_true rfl⟩) (by decide) (gk_39 E o _) rfl rfl rfl hl.1 rfl (Nat.le_of_ble_eq_true rfl) ⟨Nat.le_of_ble_eq_true rfl, Nat.le_of_ble_eq_true rfl⟩ dX5_share_41 (fun H locs I => ?_)
        refine lv_isub hx hb dX5_share_44 ?_
        refine lv_topi (fun x_19 ex_19 => ?_)
        have hf := lt_at hf ex_19
        refine lv_istore_n (lv' := [(2, .int x_19), (0, .ref (ad E 39)), (1, .int a1)]) hx hb dX5_share_45 rfl hl (by decide) rfl (fun ls hl => ?_)
        refine lv_iload_n hx hb dX5_share_46 rfl (lv_at hl 2 rfl) ?_
        obtain ⟨J_21, eJ_21, hf⟩ := lt_split hf
        have hJ_21 : ∀ (y_22 : Int32) (σ_23 : St) (H : Heap) (locs : List Loc) (ls : Array Slot), J_21 y_22 σ_23 = some res → Iv E (AA E s.heap.size) s.heap o σ_23 H locs → lv_has ls 3 [(0, .ref (ad E 39)), (2, .int x_19)] → WW_X5_share p l e s m args below meth c E o res H locs 0 0 (F0 m 58 ls [.int y_22]) := by
          intro y_22 σ_23 H locs ls hf I hl
          rw [eJ_21] at hf
          refine lv_iload_n hx hb dX5_share_58 rfl (lv_at hl 1 rfl) ?_
          refine lv_i2l hx hb dX5_share_59 rfl ?_
          refine lv_aload_n hx hb dX5_share_60 rfl (lv_at hl 0 rfl) ?_
          refine g_get (k := 39) (v := .int (σ_23 39 12)) C I (by decide) (gk_39 E o _) rfl in_X5_share_X5 12 (by decide) (C.1.2.2.2.2 _ k_X5_share_99) rfl dX5_share_61 ?_
          refine lv_i2l hx hb dX5_share_64 rfl ?_
          obtain ⟨r_24, σ_25, hg_26, hf⟩ := bd_some hf
          refine g_csl (av := [.long (x_19).toInt64, .long ((σ_23 39 12)).toInt64]) (rest := [.int y_22]) C I AA.new (c_X5_common l E o ((x_19).toInt64) (((σ_23 39 12)).toInt64) σ_23 hg_26) (cwS 2 C.1.2.2.2.2 gX5_share_X5_common rfl rfl rfl (by decide +kernel) ⟨Nat.le_of_ble_eq_true rfl, Nat.le_of_ble_eq_true rfl⟩) rfl hl.1 rfl (Nat.le_of_ble_eq_true rfl) ⟨Nat.le_of_ble_eq_true rfl, Nat.le_of_ble_eq_true rfl⟩ dX5_share_65 (fun H locs I => ?_)
          refine lv_l2i hx hb dX5_share_68 rfl ?_
          obtain ⟨h_27, hf⟩ := ck_some hf
          refine lv_idiv hx hb dX5_share_69 (nzb_ne h_27) ?_
          exact g_iret C I hr hlocks hf dX5_share_70
        refine lv_if_ne (tgt := 54) hx hb dX5_share_47 (by decide) (fun c_20 => ?_) (fun c_20 => ?_)
        · have hf := if_f hf c_20
          refine lv_aload_n hx hb dX5_share_54 rfl (lv_at hl 1 rfl) ?_
          refine g_get (k := 39) (v := .int (σ_17 39 12)) C I (by decide) (gk_39 E o _) rfl in_X5_share_X5 12 (by decide) (C.1.2.2.2.2 _ k_X5_share_99) rfl dX5_share_55 ?_
          exact hJ_21 _ σ_17 H locs ls hf I (lv_sub hl [1, 0] rfl)
        · have hf := if_t hf c_20
          refine lv_iload_n hx hb dX5_share_50 rfl (lv_at hl 0 rfl) ?_
          refine lv_goto (tgt := 58) hx hb dX5_share_51 (by decide) ?_
          exact hJ_21 _ σ_17 H locs ls hf I (lv_sub hl [1, 0] rfl)
      · have hf := if_f hf c_15
        refine lv_iconst (v := (0 : Int32)) hx hb dX5_share_34 (by decide) ?_
        exact g_iret C I hr hlocks hf dX5_share_35
    refine lv_if_ne (tgt := 26) hx hb dX5_share_19 (by decide) (fun c_8 => ?_) (fun c_8 => ?_)
    · have hf := if_f hf c_8
      refine lv_iconst (v := (0 : Int32)) hx hb dX5_share_26 (by decide) ?_
      exact hJ_9 _ σ_7 H locs ls hf I (lv_sub hl [0, 1] rfl)
    · have hf := if_t hf c_8
      refine lv_iconst (v := (1 : Int32)) hx hb dX5_share_22 (by decide) ?_
      refine lv_goto (tgt := 27) hx hb dX5_share_23 (by decide) ?_
      exact hJ_9 _ σ_7 H locs ls hf I (lv_sub hl [0, 1] rfl)
  refine lv_if_ne (tgt := 14) hx hb dX5_share_7 (by decide) (fun c_4 => ?_) (fun c_4 => ?_)
  · have hf := if_f hf c_4
    refine lv_iconst (v := (0 : Int32)) hx hb dX5_share_14 (by decide) ?_
    exact hJ_5 _ σ_2 H locs ls hf I (lv_sub hl [0, 1] rfl)
  · have hf := if_t hf c_4
    refine lv_iconst (v := (1 : Int32)) hx hb dX5_share_10 (by decide) ?_
    refine lv_goto (tgt := 15) hx hb dX5_share_11 (by decide) ?_
    exact hJ_5 _ σ_2 H locs ls hf I (lv_sub hl [0, 1] rfl)
abbrev rm_X5_mean : Room := { frames := 1, cells := 0, slots := 0, locals := 23 }
abbrev WW_X5_mean (p : Program) (l : Launch) (e : Env) (s : State) (m : MethodId) (args : Array Value) (below : List Frame) (meth : Method) (c : Code) (E : En) (o : Int64) (res : Int32 × St) (H : Heap) (locs : List Loc) (cells slots : Nat) (g : JFrame) : Prop := W p l e (headSpec wsX5_mean rm_X5_mean).room s m args below meth c H locs cells slots (MQ below (Qi E s.heap.size o res.1 res.2) args s 0 0 (AA E s.heap.size)) g
theorem k_X5_mean_35 : Cond.fieldLink RX5 35 "DaySimulateModel" "minute" "[I" ∈ wsX5_mean := by decide +kernel
theorem k_X5_mean_50 : Cond.fieldLink RX5 50 "DaySimulateModel" "came" "[I" ∈ wsX5_mean := by decide +kernel
theorem k_X5_mean_47 : Cond.fieldLink RX5 47 "DaySimulateModel" "unit" "[I" ∈ wsX5_mean := by decide +kernel
theorem k_X5_mean_99 : Cond.fieldLink RX5 99 "DaySimulateModel" "calls" "I" ∈ wsX5_mean := by decide +kernel
theorem k_X5_mean_158 : Cond.constantLong RX5 158 (1000 : Int64) ∈ wsX5_mean := by decide +kernel
theorem in_X5_mean_X5 : ∀ w ∈ wsX50, w ∈ wsX5_mean := by decide +kernel
set_option maxHeartbeats 4000000 in
set_option maxRecDepth 100000 in
theorem lp_X5_mean_6 {l : Launch} {p : Program} {e : Env} {s : State} {m : MethodId} {args : Array Value} {below : List Frame} {meth : Method} {c : Code} {E : En} {o : Int64} {res : Int32 × St} (C : Cx p c cX5_mean 4 s m args wsX5_mean RX5 E) (hr : meth.sig.returnType = (some .int)) (hlocks : meth.locks = false)  (K66 : Int32 → Int32 → St → Option (Int32 × St)) (hK66 : ∀ (u1 : Int32) (u2 : Int32) (σ : St) (H : Heap) (locs : List Loc) (ls : Array Slot), K66 u1 u2 σ = some res → Iv E (AA E s.heap.size) s.heap o σ H locs → lv_has ls 4 [(0, .ref (ad E 39)), (1, .int u1), (2, .int u2)] → WW_X5_mean p l e s m args below meth c E o res H locs 0 0 (F0 m 66 ls [])) :
    ∀ (n : Nat) (v1 : Int32) (v2 : Int32) (v3 : Int32) (σ : St) (H : Heap) (locs : List Loc) (ls : Array Slot), f_X5_mean_L6 K66 n v1 v2 v3 σ = some res → Iv E (AA E s.heap.size) s.heap o σ H locs → lv_has ls 4 [(0, .ref (ad E 39)), (1, .int v1), (2, .int v2), (3, .int v3)] → WW_X5_mean p l e s m args below meth c E o res H locs 0 0 (F0 m 6 ls []) := by
  have hx := C.1.1
  have hb := C.1.2.1
  intro n
  induction n with
  | zero => intro v1 v2 v3 σ H locs ls hf _ _; cases (show (none : Option (Int32 × St)) = some res from hf)
  | succ n ih =>
    intro v1 v2 v3 σ H locs ls hf I hl
    rw [f_X5_mean_L6] at hf
    refine lv_iload_n hx hb dX5_mean_6 rfl (lv_at hl 3 rfl) ?_
    refine lv_aload_n hx hb dX5_mean_7 rfl (lv_at hl 0 rfl) ?_
    refine g_get (k := 39) (v := .int (σ 39 12)) C I (by decide) (gk_39 E o _) rfl in_X5_mean_X5 12 (by decide) (C.1.2.2.2.2 _ k_X5_mean_99) rfl dX5_mean_8 ?_
    refine lv_icmp_ge (tgt := 66) hx hb dX5_mean_11 (by decide) (fun c_1 => ?_) (fun c_1 => ?_)
    · have hf := if_t hf c_1
      exact hK66 v1 v2 σ H locs ls hf I (lv_sub hl [0, 1, 2] rfl)
    · have hf := if_f hf c_1
      refine lv_iload_n hx hb dX5_mean_14 rfl (lv_at hl 1 rfl) ?_
      refine lv_aload_n hx hb dX5_mean_15 rfl (lv_at hl 0 rfl) ?_
      refine g_get (k := 39) (v := .ref (ad E 50)) C I (by decide) (gk_39 E o _) rfl in_X5_mean_X5 17 (by decide) (C.1.2.2.2.2 _ k_X5_mean_47) rfl dX5_mean_16 ?_
      refine lv_iload_n hx hb dX5_mean_19 rfl (lv_at hl 3 rfl) ?_
      obtain ⟨h_2, hf⟩ := ck_some hf
      refine g_iald (k := 50) C I (by decide) (gk_50 E o) (ixb_in h_2) dX5_mean_20 ?_
      obtain ⟨J_4, eJ_4, hf⟩ := lt_split hf
      have hJ_4 : ∀ (y_5 : Int32) (σ_6 : St) (H : Heap) (locs : List Loc) (ls : Array Slot), J_4 y_5 σ_6 = some res → Iv E (AA E s.heap.size) s.heap o σ_6 H locs → lv_has ls 4 [(0, .ref (ad E 39)), (2, .int v2), (3, .int v3)] → WW_X5_mean p l e s m args below meth c E o res H locs 0 0 (F0 m 29 ls [.int y_5, .int v1]) := by
        intro y_5 σ_6 H locs ls hf I hl
        rw [eJ_4] at hf
        refine lv_iadd hx hb dX5_mean_29 ?_
        refine lv_topi (fun x_7 ex_7 => ?_)
        have hf := lt_at hf ex_7
        refine lv_istore_n (lv' := [(1, .int x_7), (0, .ref (ad E 39)), (2, .int v2), (3, .int v3)]) hx hb dX5_mean_30 rfl hl (by decide) rfl (fun ls hl => ?_)
        refine lv_iload_n hx hb dX5_mean_31 rfl (lv_at hl 2 rfl) ?_
        refine lv_aload_n hx hb dX5_mean_32 rfl (lv_at hl 1 rfl) ?_
        refine g_get (k := 39) (v := .ref (ad E 50)) C I (by decide) (gk_39 E o _) rfl in_X5_mean_X5 17 (by decide) (C.1.2.2.2.2 _ k_X5_mean_47) rfl dX5_mean_33 ?_
        refine lv_iload_n hx hb dX5_mean_36 rfl (lv_at hl 3 rfl) ?_
        obtain ⟨h_8, hf⟩ := ck_some hf
        refine g_iald (k := 50) C I (by decide) (gk_50 E o) (ixb_in h_8) dX5_mean_37 ?_
        refine lv_if_ge (tgt := 45) hx hb dX5_mean_38 (by decide) (fun c_9 => ?_) (fun c_9 => ?_)
        · have hf := if_t hf c_9
          refine lv_aload_n hx hb dX5_mean_45 rfl (lv_at hl 1 rfl) ?_
          refine g_get (k := 39) (v := .ref (ad E 51)) C I (by decide) (gk_39 E o _) rfl in_X5_mean_X5 18 (by decide) (C.1.2.2.2.2 _ k_X5_mean_50) rfl dX5_mean_46 ?_
          refine lv_iload_n hx hb dX5_mean_49 rfl (lv_at hl 3 rfl) ?_
          obtain ⟨h_10, hf⟩ := ck_some hf
          refine g_iald (k := 51) C I (by decide) (gk_51 E o) (ixb_in h_10) dX5_mean_50 ?_
          refine lv_aload_n hx hb dX5_mean_51 rfl (lv_at hl 1 rfl) ?_
          refine g_get (k := 39) (v := .ref (ad E 46)) C I (by decide) (gk_39 E o _) rfl in_X5_mean_X5 13 (by decide) (C.1.2.2.2.2 _ k_X5_mean_35) rfl dX5_mean_52 ?_
          refine lv_iload_n hx hb dX5_mean_55 rfl (lv_at hl 3 rfl) ?_
          obtain ⟨h_11, hf⟩ := ck_some hf
          refine g_iald (k := 46) C I (by decide) (gk_46 E o) (ixb_in h_11) dX5_mean_56 ?_
          refine lv_isub hx hb dX5_mean_57 ?_
          refine lv_iadd hx hb dX5_mean_58 ?_
          refine lv_topi (fun x_12 ex_12 => ?_)
          have hf := lt_at hf ex_12
          refine lv_istore_n (lv' := [(2, .int x_12), (1, .int x_7), (0, .ref (ad E 39)), (3, .int v3)]) hx hb dX5_mean_59 rfl hl (by decide) rfl (fun ls hl => ?_)
          obtain ⟨x_13, ex_13⟩ : ∃ y : Int32, y = (v3 + (1 : Int32)) := ⟨_, rfl⟩
          have hf := lt_at hf ex_13
          refine lv_iinc (v := x_13) (lv' := [(3, .int x_13), (2, .int x_12), (1, .int x_7), (0, .ref (ad E 39))]) hx hb dX5_mean_60 hl (k := 3) rfl (by rw [ex_13]; rfl) (by decide) rfl (fun ls hl => ?_)
          refine lv_goto (tgt := 6) hx hb dX5_mean_63 (by decide) ?_
          exact ih x_7 x_12 x_13 σ_6 H locs ls hf I (lv_sub hl [3, 2, 1, 0] rfl)
        · have hf := if_f hf c_9
          refine lv_iconst (v := (0 : Int32)) hx hb dX5_mean_41 (by decide) ?_
          refine lv_goto (tgt := 58) hx hb dX5_mean_42 (by decide) ?_
          refine lv_iadd hx hb dX5_mean_58 ?_
          refine lv_topi (fun x_14 ex_14 => ?_)
          have hf := lt_at hf ex_14
          refine lv_istore_n (lv' := [(2, .int x_14), (1, .int x_7), (0, .ref (ad E 39)), (3, .int v3)]) hx hb dX5_mean_59 rfl hl (by decide) rfl (fun ls hl => ?_)
          obtain ⟨x_15, ex_15⟩ : ∃ y : Int32, y = (v3 + (1 : Int32)) := ⟨_, rfl⟩
          have hf := lt_at hf ex_15
          refine lv_iinc (v := x_15) (lv' := [(3, .int x_15), (2, .int x_14), (1, .int x_7), (0, .ref (ad E 39))]) hx hb dX5_mean_60 hl (k := 3) rfl (by rw [ex_15]; rfl) (by decide) rfl (fun ls hl => ?_)
          refine lv_goto (tgt := 6) hx hb dX5_mean_63 (by decide) ?_
          exact ih x_7 x_14 x_15 σ_6 H locs ls hf I (lv_sub hl [3, 2, 1, 0] rfl)
      refine lv_if_ge (tgt := 28) hx hb dX5_mean_21 (by decide) (fun c_3 => ?_) (fun c_3 => ?_)
      · have hf := if_t hf c_3
        refine lv_iconst (v := (1 : Int32)) hx hb dX5_mean_28 (by decide) ?_
        exact hJ_4 _ σ H locs ls hf I (lv_sub hl [0, 2, 3] rfl)
      · have hf := if_f hf c_3
        refine lv_iconst (v := (0 : Int32)) hx hb dX5_mean_24 (by decide) ?_
        refine lv_goto (tgt := 29) hx hb dX5_mean_25 (by decide) ?_
        exact hJ_4 _ σ H locs ls hf I (lv_sub hl [0, 2, 3] rfl)
set_option maxHeartbeats 4000000 in
set_option maxRecDepth 100000 in
theorem c_X5_mean (l : Launch) (E : En) (o : Int64)  (σ : St) {res : Int32 × St} (hf : f_X5_mean σ = some res) : CI l yX5_mean wsX5_mean rm_X5_mean E [.ref (ad E 39)] o σ res.1 res.2 := by
  intro sz
  refine Met.ofW (cc := cX5_mean) (maxL := 4) (ret := (some .int)) (by decide) rfl ?_
  intro p e s m args below meth c s₁ B hml hv
  obtain ⟨rfl, hv⟩ := hv
  obtain ⟨rfl, hK, I⟩ := hv.start
  have C : Cx p c cX5_mean 4 s m _ wsX5_mean RX5 E := ⟨⟨B.exec, B.bytes, hml, findClass_of_methodNamed B.named, atoms_spec (ws := wsX5_mean) B.pre⟩, hK⟩
  have hx := C.1.1
  have hb := C.1.2.1
  have hr := B.returns
  have hlocks := B.notSynchronized
  clear hv
  have hl := lv_entry ([.ref (ad E 39)]) (n := 4) (Nat.le_of_ble_eq_true rfl)
  rw [lg_entry_eq]
  generalize (lg_sl ([.ref (ad E 39)]) ++ List.replicate (4 - (lg_sl ([.ref (ad E 39)])).length) Slot.unset).toArray = ls at hl ⊢
  have hl : lv_has ls 4 [(0, .ref (ad E 39))] := hl
  generalize ([.ref (ad E 39)] : List Value).toArray = args at C ⊢
  refine g_begin I (fun H locs I => ?_)
  rw [f_X5_mean] at hf
  refine lv_iconst (v := (0 : Int32)) hx hb dX5_mean_0 (by decide) ?_
  refine lv_istore_n (lv' := [(1, .int (0 : Int32)), (0, .ref (ad E 39))]) hx hb dX5_mean_1 rfl hl (by decide) rfl (fun ls hl => ?_)
  refine lv_iconst (v := (0 : Int32)) hx hb dX5_mean_2 (by decide) ?_
  refine lv_istore_n (lv' := [(2, .int (0 : Int32)), (1, .int (0 : Int32)), (0, .ref (ad E 39))]) hx hb dX5_mean_3 rfl hl (by decide) rfl (fun ls hl => ?_)
  refine lv_iconst (v := (0 : Int32)) hx hb dX5_mean_4 (by decide) ?_
  refine lv_istore_n (lv' := [(3, .int (0 : Int32)), (2, .int (0 : Int32)), (1, .int (0 : Int32)), (0, .ref (ad E 39))]) hx hb dX5_mean_5 rfl hl (by decide) rfl (fun ls hl => ?_)
  refine lp_X5_mean_6 C hr hlocks _ ?_ _ (0 : Int32) (0 : Int32) (0 : Int32) σ H locs ls hf I (lv_sub hl [3, 2, 1, 0] rfl)
  · intro y_16 y_17 σ_18 H locs ls hf I hl
    refine lv_aload_n hx hb dX5_mean_66 rfl (lv_at hl 0 rfl) ?_
    refine lv_iload_n hx hb dX5_mean_67 rfl (lv_at hl 1 rfl) ?_
    obtain ⟨J_20, eJ_20, hf⟩ := lt_split hf
    have hJ_20 : ∀ (y_21 : Int32) (σ_22 : St) (H : Heap) (locs : List Loc) (ls : Array Slot), J_20 y_21 σ_22 = some res → Iv E (AA E s.heap.size) s.heap o σ_22 H locs → lv_has ls 4 [(1, .int y_16), (2, .int y_17)] → WW_X5_mean p l e s m args below meth c E o res H locs 0 0 (F0 m 76 ls [.int y_21, .ref (ad E 39)]) := by
      intro y_21 σ_22 H locs ls hf I hl
      rw [eJ_20] at hf
      refine lv_iconst (v := (0 : Int32)) hx hb dX5_mean_76 (by decide) ?_
      refine lv_iconst (v := (0 : Int32)) hx hb dX5_mean_77 (by decide) ?_
      obtain ⟨r_23, σ_24, hg_25, hf⟩ := bd_some hf
      refine g_cvi (av := [.int y_21, .int (0 : Int32), .int (0 : Int32)]) (rest := []) (k := 39) C I AA.new (c_X5_throwing l E o y_21 (0 : Int32) (0 : Int32) σ_22 hg_25) (cwV 3 C.1.2.2.2.2 gX5_mean_X5_throwing rfl rfl rfl (by decide +kernel) ⟨Nat.le_of_ble_eq_true rfl, Nat.le_of_ble_eq_true rfl⟩) (by decide) (gk_39 E o _) rfl rfl rfl hl.1 rfl (Nat.le_of_ble_eq_true rfl) ⟨Nat.le_of_ble_eq_true rfl, Nat.le_of_ble_eq_true rfl⟩ dX5_mean_78 (fun H locs I => ?_)
      refine lv_if_eq (tgt := 86) hx hb dX5_mean_81 (by decide) (fun c_26 => ?_) (fun c_26 => ?_)
      · have hf := if_t hf c_26
        refine lv_ldc2 (v := (1000 : Int64)) hx hb C.1.2.2.2.1 (C.1.2.2.2.2 _ k_X5_mean_158) dX5_mean_86 ?_
        refine lv_iload_n hx hb dX5_mean_89 rfl (lv_at hl 1 rfl) ?_
        refine lv_i2l hx hb dX5_mean_90 rfl ?_
        refine lv_lmul hx hb dX5_mean_91 ?_
        refine lv_iload_n hx hb dX5_mean_92 rfl (lv_at hl 0 rfl) ?_
        refine lv_i2l hx hb dX5_mean_93 rfl ?_
        obtain ⟨h_27, hf⟩ := ck_some hf
        refine lv_ldiv hx hb dX5_mean_94 (nzl_ne h_27) ?_
        refine lv_l2i hx hb dX5_mean_95 rfl ?_
        exact g_iret C I hr hlocks hf dX5_mean_96
      · have hf := if_f hf c_26
        refine lv_iconst (v := (0 : Int32)) hx hb dX5_mean_84 (by decide) ?_
        exact g_iret C I hr hlocks hf dX5_mean_85
    refine lv_if_ne (tgt := 75) hx hb dX5_mean_68 (by decide) (fun c_19 => ?_) (fun c_19 => ?_)
    · have hf := if_f hf c_19
      refine lv_iconst (v := (0 : Int32)) hx hb dX5_mean_75 (by decide) ?_
      exact hJ_20 _ σ_18 H locs ls hf I (lv_sub hl [1, 2] rfl)
    · have hf := if_t hf c_19
      refine lv_iconst (v := (1 : Int32)) hx hb dX5_mean_71 (by decide) ?_
      refine lv_goto (tgt := 76) hx hb dX5_mean_72 (by decide) ?_
      exact hJ_20 _ σ_18 H locs ls hf I (lv_sub hl [1, 2] rfl)
abbrev rm_X5_missed : Room := { frames := 0, cells := 0, slots := 0, locals := 0 }
abbrev WW_X5_missed (p : Program) (l : Launch) (e : Env) (s : State) (m : MethodId) (args : Array Value) (below : List Frame) (meth : Method) (c : Code) (E : En) (o : Int64) (res : Int32 × St) (H : Heap) (locs : List Loc) (cells slots : Nat) (g : JFrame) : Prop := W p l e (headSpec wsX5_missed rm_X5_missed).room s m args below meth c H locs cells slots (MQ below (Qi E s.heap.size o res.1 res.2) args s 0 0 (AA E s.heap.size)) g
theorem k_X5_missed_135 : Cond.fieldLink RX5 135 "DaySimulateModel" "missed" "I" ∈ wsX5_missed := by decide +kernel
theorem k_X5_missed_65 : Cond.fieldLink RX5 65 "DaySimulateModel" "thrown" "I" ∈ wsX5_missed := by decide +kernel
theorem in_X5_missed_X5 : ∀ w ∈ wsX50, w ∈ wsX5_missed := by decide +kernel
set_option maxHeartbeats 4000000 in
set_option maxRecDepth 100000 in
theorem c_X5_missed (l : Launch) (E : En) (o : Int64)  (σ : St) {res : Int32 × St} (hf : f_X5_missed σ = some res) : CI l yX5_missed wsX5_missed rm_X5_missed E [.ref (ad E 39)] o σ res.1 res.2 := by
  intro sz
  refine Met.ofW (cc := cX5_missed) (maxL := 1) (ret := (some .int)) (by decide) rfl ?_
  intro p e s m args below meth c s₁ B hml hv
  obtain ⟨rfl, hv⟩ := hv
  obtain ⟨rfl, hK, I⟩ := hv.start
  have C : Cx p c cX5_missed 1 s m _ wsX5_missed RX5 E := ⟨⟨B.exec, B.bytes, hml, findClass_of_methodNamed B.named, atoms_spec (ws := wsX5_missed) B.pre⟩, hK⟩
  have hx := C.1.1
  have hb := C.1.2.1
  have hr := B.returns
  have hlocks := B.notSynchronized
  clear hv
  have hl := lv_entry ([.ref (ad E 39)]) (n := 1) (Nat.le_of_ble_eq_true rfl)
  rw [lg_entry_eq]
  generalize (lg_sl ([.ref (ad E 39)]) ++ List.replicate (1 - (lg_sl ([.ref (ad E 39)])).length) Slot.unset).toArray = ls at hl ⊢
  have hl : lv_has ls 1 [(0, .ref (ad E 39))] := hl
  generalize ([.ref (ad E 39)] : List Value).toArray = args at C ⊢
  refine g_begin I (fun H locs I => ?_)
  rw [f_X5_missed] at hf
  refine lv_aload_n hx hb dX5_missed_0 rfl (lv_at hl 0 rfl) ?_
  refine lv_iconst (v := (0 : Int32)) hx hb dX5_missed_1 (by decide) ?_
  refine g_put (k := 39) (v := (0 : Int32)) C I (by decide) (gk_39 E o) rfl in_X5_missed_X5 tyX5 tyX5_ok nmX5 0 (by decide) (C.1.2.2.2.2 _ k_X5_missed_65) rfl (by decide +kernel) (Nat.le_of_ble_eq_true rfl) rfl dX5_missed_2 (fun H locs σ_1 eσ_1 I => ?_)
  have hf := lt_at hf eσ_1
  refine lv_aload_n hx hb dX5_missed_5 rfl (lv_at hl 0 rfl) ?_
  refine g_get (k := 39) (v := .int (σ_1 39 23)) C I (by decide) (gk_39 E o _) rfl in_X5_missed_X5 23 (by decide) (C.1.2.2.2.2 _ k_X5_missed_135) rfl dX5_missed_6 ?_
  exact g_iret C I hr hlocks hf dX5_missed_9
abbrev rm_X5_work : Room := { frames := 1, cells := 0, slots := 0, locals := 23 }
abbrev WW_X5_work (p : Program) (l : Launch) (e : Env) (s : State) (m : MethodId) (args : Array Value) (below : List Frame) (meth : Method) (c : Code) (E : En) (o : Int64) (res : Int32 × St) (H : Heap) (locs : List Loc) (cells slots : Nat) (g : JFrame) : Prop := W p l e (headSpec wsX5_work rm_X5_work).room s m args below meth c H locs cells slots (MQ below (Qi E s.heap.size o res.1 res.2) args s 0 0 (AA E s.heap.size)) g
theorem k_X5_work_59 : Cond.fieldLink RX5 59 "DaySimulateModel" "work" "[I" ∈ wsX5_work := by decide +kernel
theorem k_X5_work_86 : Cond.fieldLink RX5 86 "DaySimulateModel" "units" "I" ∈ wsX5_work := by decide +kernel
theorem in_X5_work_X5 : ∀ w ∈ wsX50, w ∈ wsX5_work := by decide +kernel
set_option maxHeartbeats 4000000 in
set_option maxRecDepth 100000 in
theorem c_X5_work (l : Launch) (E : En) (o : Int64) (a1 : Int32) (σ : St) {res : Int32 × St} (hf : f_X5_work a1 σ = some res) : CI l yX5_work wsX5_work rm_X5_work E [.ref (ad E 39), .int a1] o σ res.1 res.2 := by
  intro sz
  refine Met.ofW (cc := cX5_work) (maxL := 2) (ret := (some .int)) (by decide) rfl ?_
  intro p e s m args below meth c s₁ B hml hv
  obtain ⟨rfl, hv⟩ := hv
  obtain ⟨rfl, hK, I⟩ := hv.start
  have C : Cx p c cX5_work 2 s m _ wsX5_work RX5 E := ⟨⟨B.exec, B.bytes, hml, findClass_of_methodNamed B.named, atoms_spec (ws := wsX5_work) B.pre⟩, hK⟩
  have hx := C.1.1
  have hb := C.1.2.1
  have hr := B.returns
  have hlocks := B.notSynchronized
  clear hv
  have hl := lv_entry ([.ref (ad E 39), .int a1]) (n := 2) (Nat.le_of_ble_eq_true rfl)
  rw [lg_entry_eq]
  generalize (lg_sl ([.ref (ad E 39), .int a1]) ++ List.replicate (2 - (lg_sl ([.ref (ad E 39), .int a1])).length) Slot.unset).toArray = ls at hl ⊢
  have hl : lv_has ls 2 [(0, .ref (ad E 39)), (1, .int a1)] := hl
  generalize ([.ref (ad E 39), .int a1] : List Value).toArray = args at C ⊢
  refine g_begin I (fun H locs I => ?_)
  rw [f_X5_work] at hf
  refine lv_aload_n hx hb dX5_work_0 rfl (lv_at hl 0 rfl) ?_
  refine lv_iload_n hx hb dX5_work_1 rfl (lv_at hl 1 rfl) ?_
  refine lv_iconst (v := (0 : Int32)) hx hb dX5_work_2 (by decide) ?_
  refine lv_aload_n hx hb dX5_work_3 rfl (lv_at hl 0 rfl) ?_
  refine g_get (k := 39) (v := .int (σ 39 10)) C I (by decide) (gk_39 E o _) rfl in_X5_work_X5 10 (by decide) (C.1.2.2.2.2 _ k_X5_work_86) rfl dX5_work_4 ?_
  refine lv_iconst (v := (1 : Int32)) hx hb dX5_work_7 (by decide) ?_
  refine lv_isub hx hb dX5_work_8 ?_
  obtain ⟨r_1, σ_2, hg_3, hf⟩ := bd_some hf
  refine g_csi (av := [.int a1, .int (0 : Int32), .int ((σ 39 10) - (1 : Int32))]) (rest := [.ref (ad E 39)]) C I AA.new (c_X5_in l E o a1 (0 : Int32) (((σ 39 10) - (1 : Int32))) σ hg_3) (cwS 3 C.1.2.2.2.2 gX5_work_X5_in rfl rfl rfl (by decide +kernel) ⟨Nat.le_of_ble_eq_true rfl, Nat.le_of_ble_eq_true rfl⟩) rfl hl.1 rfl (Nat.le_of_ble_eq_true rfl) ⟨Nat.le_of_ble_eq_true rfl, Nat.le_of_ble_eq_true rfl⟩ dX5_work_9 (fun H locs I => ?_)
  obtain ⟨J_5, eJ_5, hf⟩ := lt_split hf
  have hJ_5 : ∀ (y_6 : Int32) (σ_7 : St) (H : Heap) (locs : List Loc) (ls : Array Slot), J_5 y_6 σ_7 = some res → Iv E (AA E s.heap.size) s.heap o σ_7 H locs → lv_has ls 2 [(0, .ref (ad E 39)), (1, .int a1)] → WW_X5_work p l e s m args below meth c E o res H locs 0 0 (F0 m 20 ls [.int y_6, .ref (ad E 39)]) := by
    intro y_6 σ_7 H locs ls hf I hl
    rw [eJ_5] at hf
    refine lv_iconst (v := (0 : Int32)) hx hb dX5_work_20 (by decide) ?_
    refine lv_iconst (v := (0 : Int32)) hx hb dX5_work_21 (by decide) ?_
    obtain ⟨r_8, σ_9, hg_10, hf⟩ := bd_some hf
    refine g_cvi (av := [.int y_6, .int (0 : Int32), .int (0 : Int32)]) (rest := []) (k := 39) C I AA.new (c_X5_throwing l E o y_6 (0 : Int32) (0 : Int32) σ_7 hg_10) (cwV 3 C.1.2.2.2.2 gX5_work_X5_throwing rfl rfl rfl (by decide +kernel) ⟨Nat.le_of_ble_eq_true rfl, Nat.le_of_ble_eq_true rfl⟩) (by decide) (gk_39 E o _) rfl rfl rfl hl.1 rfl (Nat.le_of_ble_eq_true rfl) ⟨Nat.le_of_ble_eq_true rfl, Nat.le_of_ble_eq_true rfl⟩ dX5_work_22 (fun H locs I => ?_)
    refine lv_if_eq (tgt := 30) hx hb dX5_work_25 (by decide) (fun c_11 => ?_) (fun c_11 => ?_)
    · have hf := if_t hf c_11
      refine lv_aload_n hx hb dX5_work_30 rfl (lv_at hl 0 rfl) ?_
      refine g_get (k := 39) (v := .ref (ad E 54)) C I (by decide) (gk_39 E o _) rfl in_X5_work_X5 21 (by decide) (C.1.2.2.2.2 _ k_X5_work_59) rfl dX5_work_31 ?_
      refine lv_iload_n hx hb dX5_work_34 rfl (lv_at hl 1 rfl) ?_
      obtain ⟨h_12, hf⟩ := ck_some hf
      refine g_iald (k := 54) C I (by decide) (gk_54 E o) (ixb_in h_12) dX5_work_35 ?_
      exact g_iret C I hr hlocks hf dX5_work_36
    · have hf := if_f hf c_11
      refine lv_iconst (v := (0 : Int32)) hx hb dX5_work_28 (by decide) ?_
      exact g_iret C I hr hlocks hf dX5_work_29
  refine lv_if_ne (tgt := 19) hx hb dX5_work_12 (by decide) (fun c_4 => ?_) (fun c_4 => ?_)
  · have hf := if_f hf c_4
    refine lv_iconst (v := (0 : Int32)) hx hb dX5_work_19 (by decide) ?_
    exact hJ_5 _ σ_2 H locs ls hf I (lv_sub hl [0, 1] rfl)
  · have hf := if_t hf c_4
    refine lv_iconst (v := (1 : Int32)) hx hb dX5_work_15 (by decide) ?_
    refine lv_goto (tgt := 20) hx hb dX5_work_16 (by decide) ?_
    exact hJ_5 _ σ_2 H locs ls hf I (lv_sub hl [0, 1] rfl)
abbrev rm_X5_worst : Room := { frames := 1, cells := 0, slots := 0, locals := 21 }
abbrev WW_X5_worst (p : Program) (l : Launch) (e : Env) (s : State) (m : MethodId) (args : Array Value) (below : List Frame) (meth : Method) (c : Code) (E : En) (o : Int64) (res : Int32 × St) (H : Heap) (locs : List Loc) (cells slots : Nat) (g : JFrame) : Prop := W p l e (headSpec wsX5_worst rm_X5_worst).room s m args below meth c H locs cells slots (MQ below (Qi E s.heap.size o res.1 res.2) args s 0 0 (AA E s.heap.size)) g
theorem k_X5_worst_35 : Cond.fieldLink RX5 35 "DaySimulateModel" "minute" "[I" ∈ wsX5_worst := by decide +kernel
theorem k_X5_worst_99 : Cond.fieldLink RX5 99 "DaySimulateModel" "calls" "I" ∈ wsX5_worst := by decide +kernel
theorem k_X5_worst_65 : Cond.fieldLink RX5 65 "DaySimulateModel" "thrown" "I" ∈ wsX5_worst := by decide +kernel
theorem in_X5_worst_X5 : ∀ w ∈ wsX50, w ∈ wsX5_worst := by decide +kernel
set_option maxHeartbeats 4000000 in
set_option maxRecDepth 100000 in
theorem lp_X5_worst_23 {l : Launch} {p : Program} {e : Env} {s : State} {m : MethodId} {args : Array Value} {below : List Frame} {meth : Method} {c : Code} {E : En} {o : Int64} {res : Int32 × St} (C : Cx p c cX5_worst 6 s m args wsX5_worst RX5 E) (hr : meth.sig.returnType = (some .int)) (hlocks : meth.locks = false) (b1 : Int32) (b2 : Int32) (b3 : Int32) (K71 : Int32 → St → Option (Int32 × St)) (hK71 : ∀ (u4 : Int32) (σ : St) (H : Heap) (locs : List Loc) (ls : Array Slot), K71 u4 σ = some res → Iv E (AA E s.heap.size) s.heap o σ H locs → lv_has ls 6 [(0, .ref (ad E 39)), (1, .int b1), (2, .int b2), (3, .int b3), (4, .int u4)] → WW_X5_worst p l e s m args below meth c E o res H locs 0 0 (F0 m 71 ls [])) :
    ∀ (n : Nat) (v4 : Int32) (v5 : Int32) (σ : St) (H : Heap) (locs : List Loc) (ls : Array Slot), f_X5_worst_L23 b1 b2 b3 K71 n v4 v5 σ = some res → Iv E (AA E s.heap.size) s.heap o σ H locs → lv_has ls 6 [(0, .ref (ad E 39)), (1, .int b1), (2, .int b2), (3, .int b3), (4, .int v4), (5, .int v5)] → WW_X5_worst p l e s m args below meth c E o res H locs 0 0 (F0 m 23 ls []) := by
  have hx := C.1.1
  have hb := C.1.2.1
  intro n
  induction n with
  | zero => intro v4 v5 σ H locs ls hf _ _; cases (show (none : Option (Int32 × St)) = some res from hf)
  | succ n ih =>
    intro v4 v5 σ H locs ls hf I hl
    rw [f_X5_worst_L23] at hf
    refine lv_iload hx hb dX5_worst_23 (lv_at hl 5 rfl) ?_
    refine lv_aload_n hx hb dX5_worst_25 rfl (lv_at hl 0 rfl) ?_
    refine g_get (k := 39) (v := .int (σ 39 12)) C I (by decide) (gk_39 E o _) rfl in_X5_worst_X5 12 (by decide) (C.1.2.2.2.2 _ k_X5_worst_99) rfl dX5_worst_26 ?_
    refine lv_icmp_ge (tgt := 71) hx hb dX5_worst_29 (by decide) (fun c_3 => ?_) (fun c_3 => ?_)
    · have hf := if_t hf c_3
      exact hK71 v4 σ H locs ls hf I (lv_sub hl [0, 1, 2, 3, 4] rfl)
    · have hf := if_f hf c_3
      refine lv_iload hx hb dX5_worst_32 (lv_at hl 4 rfl) ?_
      refine lv_aload_n hx hb dX5_worst_34 rfl (lv_at hl 0 rfl) ?_
      refine lv_iload hx hb dX5_worst_35 (lv_at hl 5 rfl) ?_
      obtain ⟨r_4, σ_5, hg_6, hf⟩ := bd_some hf
      refine g_cvi (av := [.int v5]) (rest := [.int v4]) (k := 39) C I AA.new (c_X5_isLate l E o v5 σ hg_6) (cwV 1 C.1.2.2.2.2 gX5_worst_X5_isLate rfl rfl rfl (by decide +kernel) ⟨Nat.le_of_ble_eq_true rfl, Nat.le_of_ble_eq_true rfl⟩) (by decide) (gk_39 E o _) rfl rfl rfl hl.1 rfl (Nat.le_of_ble_eq_true rfl) ⟨Nat.le_of_ble_eq_true rfl, Nat.le_of_ble_eq_true rfl⟩ dX5_worst_37 (fun H locs I => ?_)
      refine lv_if_eq (tgt := 61) hx hb dX5_worst_40 (by decide) (fun c_7 => ?_) (fun c_7 => ?_)
      · have hf := if_t hf c_7
        refine lv_iconst (v := (0 : Int32)) hx hb dX5_worst_61 (by decide) ?_
        refine lv_iadd hx hb dX5_worst_62 ?_
        refine lv_topi (fun x_8 ex_8 => ?_)
        have hf := lt_at hf ex_8
        refine lv_istore (lv' := [(4, .int x_8), (0, .ref (ad E 39)), (1, .int b1), (2, .int b2), (3, .int b3), (5, .int v5)]) hx hb dX5_worst_63 hl (by decide) rfl (fun ls hl => ?_)
        obtain ⟨x_9, ex_9⟩ : ∃ y : Int32, y = (v5 + (1 : Int32)) := ⟨_, rfl⟩
        have hf := lt_at hf ex_9
        refine lv_iinc (v := x_9) (lv' := [(5, .int x_9), (4, .int x_8), (0, .ref (ad E 39)), (1, .int b1), (2, .int b2), (3, .int b3)]) hx hb dX5_worst_65 hl (k := 5) rfl (by rw [ex_9]; rfl) (by decide) rfl (fun ls hl => ?_)
        refine lv_goto (tgt := 23) hx hb dX5_worst_68 (by decide) ?_
        exact ih x_8 x_9 σ_5 H locs ls hf I (lv_sub hl [2, 3, 4, 5, 1, 0] rfl)
      · have hf := if_f hf c_7
        refine lv_aload_n hx hb dX5_worst_43 rfl (lv_at hl 0 rfl) ?_
        refine g_get (k := 39) (v := .ref (ad E 46)) C I (by decide) (gk_39 E o _) rfl in_X5_worst_X5 13 (by decide) (C.1.2.2.2.2 _ k_X5_worst_35) rfl dX5_worst_44 ?_
        refine lv_iload hx hb dX5_worst_47 (lv_at hl 5 rfl) ?_
        obtain ⟨h_10, hf⟩ := ck_some hf
        refine g_iald (k := 46) C I (by decide) (gk_46 E o) (ixb_in h_10) dX5_worst_49 ?_
        refine lv_bipush (v := (60 : Int32)) hx hb dX5_worst_50 (by decide) ?_
        refine lv_idiv hx hb dX5_worst_52 (by decide) ?_
        refine lv_iload_n hx hb dX5_worst_53 rfl (lv_at hl 3 rfl) ?_
        refine lv_icmp_ne (tgt := 61) hx hb dX5_worst_54 (by decide) (fun c_11 => ?_) (fun c_11 => ?_)
        · have hf := if_f hf c_11
          refine lv_iconst (v := (0 : Int32)) hx hb dX5_worst_61 (by decide) ?_
          refine lv_iadd hx hb dX5_worst_62 ?_
          refine lv_topi (fun x_12 ex_12 => ?_)
          have hf := lt_at hf ex_12
          refine lv_istore (lv' := [(4, .int x_12), (0, .ref (ad E 39)), (1, .int b1), (2, .int b2), (3, .int b3), (5, .int v5)]) hx hb dX5_worst_63 hl (by decide) rfl (fun ls hl => ?_)
          obtain ⟨x_13, ex_13⟩ : ∃ y : Int32, y = (v5 + (1 : Int32)) := ⟨_, rfl⟩
          have hf := lt_at hf ex_13
          refine lv_iinc (v := x_13) (lv' := [(5, .int x_13), (4, .int x_12), (0, .ref (ad E 39)), (1, .int b1), (2, .int b2), (3, .int b3)]) hx hb dX5_worst_65 hl (k := 5) rfl (by rw [ex_13]; rfl) (by decide) rfl (fun ls hl => ?_)
          refine lv_goto (tgt := 23) hx hb dX5_worst_68 (by decide) ?_
          exact ih x_12 x_13 σ_5 H locs ls hf I (lv_sub hl [2, 3, 4, 5, 1, 0] rfl)
        · have hf := if_t hf c_11
          refine lv_iconst (v := (1 : Int32)) hx hb dX5_worst_57 (by decide) ?_
          refine lv_goto (tgt := 62) hx hb dX5_worst_58 (by decide) ?_
          refine lv_iadd hx hb dX5_worst_62 ?_
          refine lv_topi (fun x_14 ex_14 => ?_)
          have hf := lt_at hf ex_14
          refine lv_istore (lv' := [(4, .int x_14), (0, .ref (ad E 39)), (1, .int b1), (2, .int b2), (3, .int b3), (5, .int v5)]) hx hb dX5_worst_63 hl (by decide) rfl (fun ls hl => ?_)
          obtain ⟨x_15, ex_15⟩ : ∃ y : Int32, y = (v5 + (1 : Int32)) := ⟨_, rfl⟩
          have hf := lt_at hf ex_15
          refine lv_iinc (v := x_15) (lv' := [(5, .int x_15), (4, .int x_14), (0, .ref (ad E 39)), (1, .int b1), (2, .int b2), (3, .int b3)]) hx hb dX5_worst_65 hl (k := 5) rfl (by rw [ex_15]; rfl) (by decide) rfl (fun ls hl => ?_)
          refine lv_goto (tgt := 23) hx hb dX5_worst_68 (by decide) ?_
          exact ih x_14 x_15 σ_5 H locs ls hf I (lv_sub hl [2, 3, 4, 5, 1, 0] rfl)
set_option maxHeartbeats 4000000 in
set_option maxRecDepth 100000 in
theorem lp_X5_worst_11 {l : Launch} {p : Program} {e : Env} {s : State} {m : MethodId} {args : Array Value} {below : List Frame} {meth : Method} {c : Code} {E : En} {o : Int64} {res : Int32 × St} (C : Cx p c cX5_worst 6 s m args wsX5_worst RX5 E) (hr : meth.sig.returnType = (some .int)) (hlocks : meth.locks = false)  (K88 : Int32 → St → Option (Int32 × St)) (hK88 : ∀ (u1 : Int32) (σ : St) (H : Heap) (locs : List Loc) (ls : Array Slot), K88 u1 σ = some res → Iv E (AA E s.heap.size) s.heap o σ H locs → lv_has ls 6 [(1, .int u1)] → WW_X5_worst p l e s m args below meth c E o res H locs 0 0 (F0 m 88 ls [])) :
    ∀ (n : Nat) (v1 : Int32) (v2 : Int32) (v3 : Int32) (σ : St) (H : Heap) (locs : List Loc) (ls : Array Slot), f_X5_worst_L11 K88 n v1 v2 v3 σ = some res → Iv E (AA E s.heap.size) s.heap o σ H locs → lv_has ls 6 [(0, .ref (ad E 39)), (1, .int v1), (2, .int v2), (3, .int v3)] → WW_X5_worst p l e s m args below meth c E o res H locs 0 0 (F0 m 11 ls []) := by
  have hx := C.1.1
  have hb := C.1.2.1
  intro n
  induction n with
  | zero => intro v1 v2 v3 σ H locs ls hf _ _; cases (show (none : Option (Int32 × St)) = some res from hf)
  | succ n ih =>
    intro v1 v2 v3 σ H locs ls hf I hl
    rw [f_X5_worst_L11] at hf
    refine lv_iload_n hx hb dX5_worst_11 rfl (lv_at hl 3 rfl) ?_
    refine lv_bipush (v := (24 : Int32)) hx hb dX5_worst_12 (by decide) ?_
    refine lv_icmp_ge (tgt := 88) hx hb dX5_worst_14 (by decide) (fun c_2 => ?_) (fun c_2 => ?_)
    · have hf := if_t hf c_2
      exact hK88 v1 σ H locs ls hf I (lv_sub hl [1] rfl)
    · have hf := if_f hf c_2
      refine lv_iconst (v := (0 : Int32)) hx hb dX5_worst_17 (by decide) ?_
      refine lv_istore (lv' := [(4, .int (0 : Int32)), (0, .ref (ad E 39)), (1, .int v1), (2, .int v2), (3, .int v3)]) hx hb dX5_worst_18 hl (by decide) rfl (fun ls hl => ?_)
      refine lv_iconst (v := (0 : Int32)) hx hb dX5_worst_20 (by decide) ?_
      refine lv_istore (lv' := [(5, .int (0 : Int32)), (4, .int (0 : Int32)), (0, .ref (ad E 39)), (1, .int v1), (2, .int v2), (3, .int v3)]) hx hb dX5_worst_21 hl (by decide) rfl (fun ls hl => ?_)
      refine lp_X5_worst_23 C hr hlocks v1 v2 v3 _ ?_ _ (0 : Int32) (0 : Int32) σ H locs ls hf I (lv_sub hl [2, 3, 4, 5, 1, 0] rfl)
      · intro y_16 σ_17 H locs ls hf I hl
        refine lv_iload hx hb dX5_worst_71 (lv_at hl 4 rfl) ?_
        refine lv_iload_n hx hb dX5_worst_73 rfl (lv_at hl 2 rfl) ?_
        refine lv_icmp_le (tgt := 82) hx hb dX5_worst_74 (by decide) (fun c_18 => ?_) (fun c_18 => ?_)
        · have hf := if_t hf c_18
          obtain ⟨x_19, ex_19⟩ : ∃ y : Int32, y = (v3 + (1 : Int32)) := ⟨_, rfl⟩
          have hf := lt_at hf ex_19
          refine lv_iinc (v := x_19) (lv' := [(3, .int x_19), (0, .ref (ad E 39)), (1, .int v1), (2, .int v2), (4, .int y_16)]) hx hb dX5_worst_82 hl (k := 3) rfl (by rw [ex_19]; rfl) (by decide) rfl (fun ls hl => ?_)
          refine lv_goto (tgt := 11) hx hb dX5_worst_85 (by decide) ?_
          exact ih v1 v2 x_19 σ_17 H locs ls hf I (lv_sub hl [1, 2, 3, 0] rfl)
        · have hf := if_f hf c_18
          refine lv_iload_n hx hb dX5_worst_77 rfl (lv_at hl 3 rfl) ?_
          refine lv_istore_n (lv' := [(1, .int v3), (0, .ref (ad E 39)), (2, .int v2), (3, .int v3), (4, .int y_16)]) hx hb dX5_worst_78 rfl hl (by decide) rfl (fun ls hl => ?_)
          refine lv_iload hx hb dX5_worst_79 (lv_at hl 4 rfl) ?_
          refine lv_istore_n (lv' := [(2, .int y_16), (1, .int v3), (0, .ref (ad E 39)), (3, .int v3), (4, .int y_16)]) hx hb dX5_worst_81 rfl hl (by decide) rfl (fun ls hl => ?_)
          obtain ⟨x_20, ex_20⟩ : ∃ y : Int32, y = (v3 + (1 : Int32)) := ⟨_, rfl⟩
          have hf := lt_at hf ex_20
          refine lv_iinc (v := x_20) (lv' := [(3, .int x_20), (2, .int y_16), (1, .int v3), (0, .ref (ad E 39)), (4, .int y_16)]) hx hb dX5_worst_82 hl (k := 3) rfl (by rw [ex_20]; rfl) (by decide) rfl (fun ls hl => ?_)
          refine lv_goto (tgt := 11) hx hb dX5_worst_85 (by decide) ?_
          exact ih v3 y_16 x_20 σ_17 H locs ls hf I (lv_sub hl [3, 2, 1, 0] rfl)
set_option maxHeartbeats 4000000 in
set_option maxRecDepth 100000 in
theorem c_X5_worst (l : Launch) (E : En) (o : Int64)  (σ : St) {res : Int32 × St} (hf : f_X5_worst σ = some res) : CI l yX5_worst wsX5_worst rm_X5_worst E [.ref (ad E 39)] o σ res.1 res.2 := by
  intro sz
  refine Met.ofW (cc := cX5_worst) (maxL := 6) (ret := (some .int)) (by decide) rfl ?_
  intro p e s m args below meth c s₁ B hml hv
  obtain ⟨rfl, hv⟩ := hv
  obtain ⟨rfl, hK, I⟩ := hv.start
  have C : Cx p c cX5_worst 6 s m _ wsX5_worst RX5 E := ⟨⟨B.exec, B.bytes, hml, findClass_of_methodNamed B.named, atoms_spec (ws := wsX5_worst) B.pre⟩, hK⟩
  have hx := C.1.1
  have hb := C.1.2.1
  have hr := B.returns
  have hlocks := B.notSynchronized
  clear hv
  have hl := lv_entry ([.ref (ad E 39)]) (n := 6) (Nat.le_of_ble_eq_true rfl)
  rw [lg_entry_eq]
  generalize (lg_sl ([.ref (ad E 39)]) ++ List.replicate (6 - (lg_sl ([.ref (ad E 39)])).length) Slot.unset).toArray = ls at hl ⊢
  have hl : lv_has ls 6 [(0, .ref (ad E 39))] := hl
  generalize ([.ref (ad E 39)] : List Value).toArray = args at C ⊢
  refine g_begin I (fun H locs I => ?_)
  rw [f_X5_worst] at hf
  refine lv_aload_n hx hb dX5_worst_0 rfl (lv_at hl 0 rfl) ?_
  refine lv_iconst (v := (0 : Int32)) hx hb dX5_worst_1 (by decide) ?_
  refine g_put (k := 39) (v := (0 : Int32)) C I (by decide) (gk_39 E o) rfl in_X5_worst_X5 tyX5 tyX5_ok nmX5 0 (by decide) (C.1.2.2.2.2 _ k_X5_worst_65) rfl (by decide +kernel) (Nat.le_of_ble_eq_true rfl) rfl dX5_worst_2 (fun H locs σ_1 eσ_1 I => ?_)
  have hf := lt_at hf eσ_1
  refine lv_iconst (v := (-1 : Int32)) hx hb dX5_worst_5 (by decide) ?_
  refine lv_istore_n (lv' := [(1, .int (-1 : Int32)), (0, .ref (ad E 39))]) hx hb dX5_worst_6 rfl hl (by decide) rfl (fun ls hl => ?_)
  refine lv_iconst (v := (0 : Int32)) hx hb dX5_worst_7 (by decide) ?_
  refine lv_istore_n (lv' := [(2, .int (0 : Int32)), (1, .int (-1 : Int32)), (0, .ref (ad E 39))]) hx hb dX5_worst_8 rfl hl (by decide) rfl (fun ls hl => ?_)
  refine lv_iconst (v := (0 : Int32)) hx hb dX5_worst_9 (by decide) ?_
  refine lv_istore_n (lv' := [(3, .int (0 : Int32)), (2, .int (0 : Int32)), (1, .int (-1 : Int32)), (0, .ref (ad E 39))]) hx hb dX5_worst_10 rfl hl (by decide) rfl (fun ls hl => ?_)
  refine lp_X5_worst_11 C hr hlocks _ ?_ _ (-1 : Int32) (0 : Int32) (0 : Int32) σ_1 H locs ls hf I (lv_sub hl [3, 2, 1, 0] rfl)
  · intro y_21 σ_22 H locs ls hf I hl
    refine lv_iload_n hx hb dX5_worst_88 rfl (lv_at hl 0 rfl) ?_
    exact g_iret C I hr hlocks hf dX5_worst_89
abbrev rm_X5_arrived : Room := { frames := 1, cells := 0, slots := 0, locals := 23 }
abbrev WW_X5_arrived (p : Program) (l : Launch) (e : Env) (s : State) (m : MethodId) (args : Array Value) (below : List Frame) (meth : Method) (c : Code) (E : En) (o : Int64) (res : Int32 × St) (H : Heap) (locs : List Loc) (cells slots : Nat) (g : JFrame) : Prop := W p l e (headSpec wsX5_arrived rm_X5_arrived).room s m args below meth c H locs cells slots (MQ below (Qi E s.heap.size o res.1 res.2) args s 0 0 (AA E s.heap.size)) g
theorem k_X5_arrived_50 : Cond.fieldLink RX5 50 "DaySimulateModel" "came" "[I" ∈ wsX5_arrived := by decide +kernel
theorem k_X5_arrived_47 : Cond.fieldLink RX5 47 "DaySimulateModel" "unit" "[I" ∈ wsX5_arrived := by decide +kernel
theorem k_X5_arrived_99 : Cond.fieldLink RX5 99 "DaySimulateModel" "calls" "I" ∈ wsX5_arrived := by decide +kernel
theorem in_X5_arrived_X5 : ∀ w ∈ wsX50, w ∈ wsX5_arrived := by decide +kernel
set_option maxHeartbeats 4000000 in
set_option maxRecDepth 100000 in
theorem lp_X5_arrived_31 {l : Launch} {p : Program} {e : Env} {s : State} {m : MethodId} {args : Array Value} {below : List Frame} {meth : Method} {c : Code} {E : En} {o : Int64} {res : Int32 × St} (C : Cx p c cX5_arrived 4 s m args wsX5_arrived RX5 E) (hr : meth.sig.returnType = (some .int)) (hlocks : meth.locks = false) (b1 : Int32) (K72 : Int32 → St → Option (Int32 × St)) (hK72 : ∀ (u2 : Int32) (σ : St) (H : Heap) (locs : List Loc) (ls : Array Slot), K72 u2 σ = some res → Iv E (AA E s.heap.size) s.heap o σ H locs → lv_has ls 4 [(2, .int u2)] → WW_X5_arrived p l e s m args below meth c E o res H locs 0 0 (F0 m 72 ls [])) :
    ∀ (n : Nat) (v2 : Int32) (v3 : Int32) (σ : St) (H : Heap) (locs : List Loc) (ls : Array Slot), f_X5_arrived_L31 b1 K72 n v2 v3 σ = some res → Iv E (AA E s.heap.size) s.heap o σ H locs → lv_has ls 4 [(0, .ref (ad E 39)), (1, .int b1), (2, .int v2), (3, .int v3)] → WW_X5_arrived p l e s m args below meth c E o res H locs 0 0 (F0 m 31 ls []) := by
  have hx := C.1.1
  have hb := C.1.2.1
  intro n
  induction n with
  | zero => intro v2 v3 σ H locs ls hf _ _; cases (show (none : Option (Int32 × St)) = some res from hf)
  | succ n ih =>
    intro v2 v3 σ H locs ls hf I hl
    rw [f_X5_arrived_L31] at hf
    refine lv_iload_n hx hb dX5_arrived_31 rfl (lv_at hl 3 rfl) ?_
    refine lv_aload_n hx hb dX5_arrived_32 rfl (lv_at hl 0 rfl) ?_
    refine g_get (k := 39) (v := .int (σ 39 12)) C I (by decide) (gk_39 E o _) rfl in_X5_arrived_X5 12 (by decide) (C.1.2.2.2.2 _ k_X5_arrived_99) rfl dX5_arrived_33 ?_
    refine lv_icmp_ge (tgt := 72) hx hb dX5_arrived_36 (by decide) (fun c_12 => ?_) (fun c_12 => ?_)
    · have hf := if_t hf c_12
      exact hK72 v2 σ H locs ls hf I (lv_sub hl [2] rfl)
    · have hf := if_f hf c_12
      refine lv_iload_n hx hb dX5_arrived_39 rfl (lv_at hl 2 rfl) ?_
      refine lv_aload_n hx hb dX5_arrived_40 rfl (lv_at hl 0 rfl) ?_
      refine g_get (k := 39) (v := .ref (ad E 50)) C I (by decide) (gk_39 E o _) rfl in_X5_arrived_X5 17 (by decide) (C.1.2.2.2.2 _ k_X5_arrived_47) rfl dX5_arrived_41 ?_
      refine lv_iload_n hx hb dX5_arrived_44 rfl (lv_at hl 3 rfl) ?_
      obtain ⟨h_13, hf⟩ := ck_some hf
      refine g_iald (k := 50) C I (by decide) (gk_50 E o) (ixb_in h_13) dX5_arrived_45 ?_
      refine lv_if_lt (tgt := 63) hx hb dX5_arrived_46 (by decide) (fun c_14 => ?_) (fun c_14 => ?_)
      · have hf := if_t hf c_14
        refine lv_iconst (v := (0 : Int32)) hx hb dX5_arrived_63 (by decide) ?_
        refine lv_iadd hx hb dX5_arrived_64 ?_
        refine lv_topi (fun x_15 ex_15 => ?_)
        have hf := lt_at hf ex_15
        refine lv_istore_n (lv' := [(2, .int x_15), (0, .ref (ad E 39)), (1, .int b1), (3, .int v3)]) hx hb dX5_arrived_65 rfl hl (by decide) rfl (fun ls hl => ?_)
        obtain ⟨x_16, ex_16⟩ : ∃ y : Int32, y = (v3 + (1 : Int32)) := ⟨_, rfl⟩
        have hf := lt_at hf ex_16
        refine lv_iinc (v := x_16) (lv' := [(3, .int x_16), (2, .int x_15), (0, .ref (ad E 39)), (1, .int b1)]) hx hb dX5_arrived_66 hl (k := 3) rfl (by rw [ex_16]; rfl) (by decide) rfl (fun ls hl => ?_)
        refine lv_goto (tgt := 31) hx hb dX5_arrived_69 (by decide) ?_
        exact ih x_15 x_16 σ H locs ls hf I (lv_sub hl [2, 3, 1, 0] rfl)
      · have hf := if_f hf c_14
        refine lv_aload_n hx hb dX5_arrived_49 rfl (lv_at hl 0 rfl) ?_
        refine g_get (k := 39) (v := .ref (ad E 51)) C I (by decide) (gk_39 E o _) rfl in_X5_arrived_X5 18 (by decide) (C.1.2.2.2.2 _ k_X5_arrived_50) rfl dX5_arrived_50 ?_
        refine lv_iload_n hx hb dX5_arrived_53 rfl (lv_at hl 3 rfl) ?_
        obtain ⟨h_17, hf⟩ := ck_some hf
        refine g_iald (k := 51) C I (by decide) (gk_51 E o) (ixb_in h_17) dX5_arrived_54 ?_
        refine lv_iload_n hx hb dX5_arrived_55 rfl (lv_at hl 1 rfl) ?_
        refine lv_icmp_gt (tgt := 63) hx hb dX5_arrived_56 (by decide) (fun c_18 => ?_) (fun c_18 => ?_)
        · have hf := if_t hf c_18
          refine lv_iconst (v := (0 : Int32)) hx hb dX5_arrived_63 (by decide) ?_
          refine lv_iadd hx hb dX5_arrived_64 ?_
          refine lv_topi (fun x_19 ex_19 => ?_)
          have hf := lt_at hf ex_19
          refine lv_istore_n (lv' := [(2, .int x_19), (0, .ref (ad E 39)), (1, .int b1), (3, .int v3)]) hx hb dX5_arrived_65 rfl hl (by decide) rfl (fun ls hl => ?_)
          obtain ⟨x_20, ex_20⟩ : ∃ y : Int32, y = (v3 + (1 : Int32)) := ⟨_, rfl⟩
          have hf := lt_at hf ex_20
          refine lv_iinc (v := x_20) (lv' := [(3, .int x_20), (2, .int x_19), (0, .ref (ad E 39)), (1, .int b1)]) hx hb dX5_arrived_66 hl (k := 3) rfl (by rw [ex_20]; rfl) (by decide) rfl (fun ls hl => ?_)
          refine lv_goto (tgt := 31) hx hb dX5_arrived_69 (by decide) ?_
          exact ih x_19 x_20 σ H locs ls hf I (lv_sub hl [2, 3, 1, 0] rfl)
        · have hf := if_f hf c_18
          refine lv_iconst (v := (1 : Int32)) hx hb dX5_arrived_59 (by decide) ?_
          refine lv_goto (tgt := 64) hx hb dX5_arrived_60 (by decide) ?_
          refine lv_iadd hx hb dX5_arrived_64 ?_
          refine lv_topi (fun x_21 ex_21 => ?_)
          have hf := lt_at hf ex_21
          refine lv_istore_n (lv' := [(2, .int x_21), (0, .ref (ad E 39)), (1, .int b1), (3, .int v3)]) hx hb dX5_arrived_65 rfl hl (by decide) rfl (fun ls hl => ?_)
          obtain ⟨x_22, ex_22⟩ : ∃ y : Int32, y = (v3 + (1 : Int32)) := ⟨_, rfl⟩
          have hf := lt_at hf ex_22
          refine lv_iinc (v := x_22) (lv' := [(3, .int x_22), (2, .int x_21), (0, .ref (ad E 39)), (1, .int b1)]) hx hb dX5_arrived_66 hl (k := 3) rfl (by rw [ex_22]; rfl) (by decide) rfl (fun ls hl => ?_)
          refine lv_goto (tgt := 31) hx hb dX5_arrived_69 (by decide) ?_
          exact ih x_21 x_22 σ H locs ls hf I (lv_sub hl [2, 3, 1, 0] rfl)
set_option maxHeartbeats 4000000 in
set_option maxRecDepth 100000 in
theorem c_X5_arrived (l : Launch) (E : En) (o : Int64) (a1 : Int32) (σ : St) {res : Int32 × St} (hf : f_X5_arrived a1 σ = some res) : CI l yX5_arrived wsX5_arrived rm_X5_arrived E [.ref (ad E 39), .int a1] o σ res.1 res.2 := by
  intro sz
  refine Met.ofW (cc := cX5_arrived) (maxL := 4) (ret := (some .int)) (by decide) rfl ?_
  intro p e s m args below meth c s₁ B hml hv
  obtain ⟨rfl, hv⟩ := hv
  obtain ⟨rfl, hK, I⟩ := hv.start
  have C : Cx p c cX5_arrived 4 s m _ wsX5_arrived RX5 E := ⟨⟨B.exec, B.bytes, hml, findClass_of_methodNamed B.named, atoms_spec (ws := wsX5_arrived) B.pre⟩, hK⟩
  have hx := C.1.1
  have hb := C.1.2.1
  have hr := B.returns
  have hlocks := B.notSynchronized
  clear hv
  have hl := lv_entry ([.ref (ad E 39), .int a1]) (n := 4) (Nat.le_of_ble_eq_true rfl)
  rw [lg_entry_eq]
  generalize (lg_sl ([.ref (ad E 39), .int a1]) ++ List.replicate (4 - (lg_sl ([.ref (ad E 39), .int a1])).length) Slot.unset).toArray = ls at hl ⊢
  have hl : lv_has ls 4 [(0, .ref (ad E 39)), (1, .int a1)] := hl
  generalize ([.ref (ad E 39), .int a1] : List Value).toArray = args at C ⊢
  refine g_begin I (fun H locs I => ?_)
  rw [f_X5_arrived] at hf
  refine lv_aload_n hx hb dX5_arrived_0 rfl (lv_at hl 0 rfl) ?_
  refine lv_iload_n hx hb dX5_arrived_1 rfl (lv_at hl 1 rfl) ?_
  refine lv_iconst (v := (0 : Int32)) hx hb dX5_arrived_2 (by decide) ?_
  refine lv_sipush (v := (9999 : Int32)) hx hb dX5_arrived_3 (by decide) ?_
  obtain ⟨r_1, σ_2, hg_3, hf⟩ := bd_some hf
  refine g_csi (av := [.int a1, .int (0 : Int32), .int (9999 : Int32)]) (rest := [.ref (ad E 39)]) C I AA.new (c_X5_in l E o a1 (0 : Int32) (9999 : Int32) σ hg_3) (cwS 3 C.1.2.2.2.2 gX5_arrived_X5_in rfl rfl rfl (by decide +kernel) ⟨Nat.le_of_ble_eq_true rfl, Nat.le_of_ble_eq_true rfl⟩) rfl hl.1 rfl (Nat.le_of_ble_eq_true rfl) ⟨Nat.le_of_ble_eq_true rfl, Nat.le_of_ble_eq_true rfl⟩ dX5_arrived_6 (fun H locs I => ?_)
  obtain ⟨J_5, eJ_5, hf⟩ := lt_split hf
  have hJ_5 : ∀ (y_6 : Int32) (σ_7 : St) (H : Heap) (locs : List Loc) (ls : Array Slot), J_5 y_6 σ_7 = some res → Iv E (AA E s.heap.size) s.heap o σ_7 H locs → lv_has ls 4 [(0, .ref (ad E 39)), (1, .int a1)] → WW_X5_arrived p l e s m args below meth c E o res H locs 0 0 (F0 m 17 ls [.int y_6, .ref (ad E 39)]) := by
    intro y_6 σ_7 H locs ls hf I hl
    rw [eJ_5] at hf
    refine lv_iconst (v := (0 : Int32)) hx hb dX5_arrived_17 (by decide) ?_
    refine lv_iconst (v := (0 : Int32)) hx hb dX5_arrived_18 (by decide) ?_
    obtain ⟨r_8, σ_9, hg_10, hf⟩ := bd_some hf
    refine g_cvi (av := [.int y_6, .int (0 : Int32), .int (0 : Int32)]) (rest := []) (k := 39) C I AA.new (c_X5_throwing l E o y_6 (0 : Int32) (0 : Int32) σ_7 hg_10) (cwV 3 C.1.2.2.2.2 gX5_arrived_X5_throwing rfl rfl rfl (by decide +kernel) ⟨Nat.le_of_ble_eq_true rfl, Nat.le_of_ble_eq_true rfl⟩) (by decide) (gk_39 E o _) rfl rfl rfl hl.1 rfl (Nat.le_of_ble_eq_true rfl) ⟨Nat.le_of_ble_eq_true rfl, Nat.le_of_ble_eq_true rfl⟩ dX5_arrived_19 (fun H locs I => ?_)
    refine lv_if_eq (tgt := 27) hx hb dX5_arrived_22 (by decide) (fun c_11 => ?_) (fun c_11 => ?_)
    · have hf := if_t hf c_11
      refine lv_iconst (v := (0 : Int32)) hx hb dX5_arrived_27 (by decide) ?_
      refine lv_istore_n (lv' := [(2, .int (0 : Int32)), (0, .ref (ad E 39)), (1, .int a1)]) hx hb dX5_arrived_28 rfl hl (by decide) rfl (fun ls hl => ?_)
      refine lv_iconst (v := (0 : Int32)) hx hb dX5_arrived_29 (by decide) ?_
      refine lv_istore_n (lv' := [(3, .int (0 : Int32)), (2, .int (0 : Int32)), (0, .ref (ad E 39)), (1, .int a1)]) hx hb dX5_arrived_30 rfl hl (by decide) rfl (fun ls hl => ?_)
      refine lp_X5_arrived_31 C hr hlocks a1 _ ?_ _ (0 : Int32) (0 : Int32) σ_9 H locs ls hf I (lv_sub hl [2, 3, 1, 0] rfl)
      · intro y_23 σ_24 H locs ls hf I hl
        refine lv_iload_n hx hb dX5_arrived_72 rfl (lv_at hl 0 rfl) ?_
        exact g_iret C I hr hlocks hf dX5_arrived_73
    · have hf := if_f hf c_11
      refine lv_iconst (v := (0 : Int32)) hx hb dX5_arrived_25 (by decide) ?_
      exact g_iret C I hr hlocks hf dX5_arrived_26
  refine lv_if_ne (tgt := 16) hx hb dX5_arrived_9 (by decide) (fun c_4 => ?_) (fun c_4 => ?_)
  · have hf := if_f hf c_4
    refine lv_iconst (v := (0 : Int32)) hx hb dX5_arrived_16 (by decide) ?_
    exact hJ_5 _ σ_2 H locs ls hf I (lv_sub hl [0, 1] rfl)
  · have hf := if_t hf c_4
    refine lv_iconst (v := (1 : Int32)) hx hb dX5_arrived_12 (by decide) ?_
    refine lv_goto (tgt := 17) hx hb dX5_arrived_13 (by decide) ?_
    exact hJ_5 _ σ_2 H locs ls hf I (lv_sub hl [0, 1] rfl)
abbrev rm_X5_unlucky : Room := { frames := 4, cells := 0, slots := 0, locals := 98 }
abbrev WW_X5_unlucky (p : Program) (l : Launch) (e : Env) (s : State) (m : MethodId) (args : Array Value) (below : List Frame) (meth : Method) (c : Code) (E : En) (o : Int64) (res : Int32 × St) (H : Heap) (locs : List Loc) (cells slots : Nat) (g : JFrame) : Prop := W p l e (headSpec wsX5_unlucky rm_X5_unlucky).room s m args below meth c H locs cells slots (MQ below (Qi E s.heap.size o res.1 res.2) args s 0 0 (AA E s.heap.size)) g
theorem k_X5_unlucky_83 : Cond.fieldLink RX5 83 "DaySimulateModel" "areas" "I" ∈ wsX5_unlucky := by decide +kernel
theorem in_X5_unlucky_X5 : ∀ w ∈ wsX50, w ∈ wsX5_unlucky := by decide +kernel
set_option maxHeartbeats 4000000 in
set_option maxRecDepth 100000 in
theorem lp_X5_unlucky_87 {l : Launch} {p : Program} {e : Env} {s : State} {m : MethodId} {args : Array Value} {below : List Frame} {meth : Method} {c : Code} {E : En} {o : Int64} {res : Int32 × St} (C : Cx p c cX5_unlucky 10 s m args wsX5_unlucky RX5 E) (hr : meth.sig.returnType = (some .int)) (hlocks : meth.locks = false) (b1 : Int32) (b2 : Int32) (b3 : Int32) (b4 : Int32) (b5 : Int32) (K133 : Int32 → St → Option (Int32 × St)) (hK133 : ∀ (u7 : Int32) (σ : St) (H : Heap) (locs : List Loc) (ls : Array Slot), K133 u7 σ = some res → Iv E (AA E s.heap.size) s.heap o σ H locs → lv_has ls 10 [(0, .ref (ad E 39)), (7, .int u7)] → WW_X5_unlucky p l e s m args below meth c E o res H locs 0 0 (F0 m 133 ls [])) :
    ∀ (n : Nat) (v7 : Int32) (v8 : Int32) (v9 : Int32) (σ : St) (H : Heap) (locs : List Loc) (ls : Array Slot), f_X5_unlucky_L87 b1 b2 b3 b4 b5 K133 n v7 v8 v9 σ = some res → Iv E (AA E s.heap.size) s.heap o σ H locs → lv_has ls 10 [(0, .ref (ad E 39)), (1, .int b1), (2, .int b2), (3, .int b3), (4, .int b4), (5, .int b5), (7, .int v7), (8, .int v8), (9, .int v9)] → WW_X5_unlucky p l e s m args below meth c E o res H locs 0 0 (F0 m 87 ls []) := by
  have hx := C.1.1
  have hb := C.1.2.1
  intro n
  induction n with
  | zero => intro v7 v8 v9 σ H locs ls hf _ _; cases (show (none : Option (Int32 × St)) = some res from hf)
  | succ n ih =>
    intro v7 v8 v9 σ H locs ls hf I hl
    rw [f_X5_unlucky_L87] at hf
    refine lv_iload hx hb dX5_unlucky_87 (lv_at hl 8 rfl) ?_
    refine lv_iload_n hx hb dX5_unlucky_89 rfl (lv_at hl 3 rfl) ?_
    refine lv_icmp_ge (tgt := 133) hx hb dX5_unlucky_90 (by decide) (fun c_32 => ?_) (fun c_32 => ?_)
    · have hf := if_t hf c_32
      exact hK133 v7 σ H locs ls hf I (lv_sub hl [0, 6] rfl)
    · have hf := if_f hf c_32
      refine lv_aload_n hx hb dX5_unlucky_93 rfl (lv_at hl 0 rfl) ?_
      refine lv_iload_n hx hb dX5_unlucky_94 rfl (lv_at hl 1 rfl) ?_
      refine lv_iload_n hx hb dX5_unlucky_95 rfl (lv_at hl 2 rfl) ?_
      refine lv_iload hx hb dX5_unlucky_96 (lv_at hl 8 rfl) ?_
      refine lv_iadd hx hb dX5_unlucky_98 ?_
      refine lv_iload hx hb dX5_unlucky_99 (lv_at hl 4 rfl) ?_
      refine lv_iload hx hb dX5_unlucky_101 (lv_at hl 5 rfl) ?_
      obtain ⟨r_33, σ_34, hg_35, hf⟩ := bd_some hf
      refine g_cvv (av := [.int b1, .int (b2 + v9), .int b4, .int b5]) (rest := []) (k := 39) C I AA.new (c_X5_play l E o b1 ((b2 + v9)) b4 b5 σ hg_35) (cwV 4 C.1.2.2.2.2 gX5_unlucky_X5_play rfl rfl rfl (by decide +kernel) ⟨Nat.le_of_ble_eq_true rfl, Nat.le_of_ble_eq_true rfl⟩) (by decide) (gk_39 E o _) rfl rfl rfl hl.1 rfl (Nat.le_of_ble_eq_true rfl) ⟨Nat.le_of_ble_eq_true rfl, Nat.le_of_ble_eq_true rfl⟩ dX5_unlucky_103 (fun H locs I => ?_)
      refine lv_aload_n hx hb dX5_unlucky_106 rfl (lv_at hl 0 rfl) ?_
      obtain ⟨r_36, σ_37, hg_38, hf⟩ := bd_some hf
      refine g_cvi (av := []) (rest := []) (k := 39) C I AA.new (c_X5_late l E o σ_34 hg_38) (cwV 0 C.1.2.2.2.2 gX5_unlucky_X5_late rfl rfl rfl (by decide +kernel) ⟨Nat.le_of_ble_eq_true rfl, Nat.le_of_ble_eq_true rfl⟩) (by decide) (gk_39 E o _) rfl rfl rfl hl.1 rfl (Nat.le_of_ble_eq_true rfl) ⟨Nat.le_of_ble_eq_true rfl, Nat.le_of_ble_eq_true rfl⟩ dX5_unlucky_107 (fun H locs I => ?_)
      refine lv_iload hx hb dX5_unlucky_110 (lv_at hl 7 rfl) ?_
      refine lv_icmp_le (tgt := 127) hx hb dX5_unlucky_112 (by decide) (fun c_39 => ?_) (fun c_39 => ?_)
      · have hf := if_t hf c_39
        obtain ⟨x_40, ex_40⟩ : ∃ y : Int32, y = (v9 + (1 : Int32)) := ⟨_, rfl⟩
        have hf := lt_at hf ex_40
        refine lv_iinc (v := x_40) (lv' := [(9, .int x_40), (0, .ref (ad E 39)), (1, .int b1), (2, .int b2), (3, .int b3), (4, .int b4), (5, .int b5), (7, .int v7), (8, .int v8)]) hx hb dX5_unlucky_127 hl (k := 8) rfl (by rw [ex_40]; rfl) (by decide) rfl (fun ls hl => ?_)
        refine lv_goto (tgt := 87) hx hb dX5_unlucky_130 (by decide) ?_
        exact ih v7 v8 x_40 σ_37 H locs ls hf I (lv_sub hl [1, 2, 3, 4, 5, 6, 7, 8, 0] rfl)
      · have hf := if_f hf c_39
        refine lv_iload_n hx hb dX5_unlucky_115 rfl (lv_at hl 2 rfl) ?_
        refine lv_iload hx hb dX5_unlucky_116 (lv_at hl 8 rfl) ?_
        refine lv_iadd hx hb dX5_unlucky_118 ?_
        refine lv_topi (fun x_41 ex_41 => ?_)
        have hf := lt_at hf ex_41
        refine lv_istore (lv' := [(7, .int x_41), (0, .ref (ad E 39)), (1, .int b1), (2, .int b2), (3, .int b3), (4, .int b4), (5, .int b5), (8, .int v8), (9, .int v9)]) hx hb dX5_unlucky_119 hl (by decide) rfl (fun ls hl => ?_)
        refine lv_aload_n hx hb dX5_unlucky_121 rfl (lv_at hl 1 rfl) ?_
        obtain ⟨r_42, σ_43, hg_44, hf⟩ := bd_some hf
        refine g_cvi (av := []) (rest := []) (k := 39) C I AA.new (c_X5_late l E o σ_37 hg_44) (cwV 0 C.1.2.2.2.2 gX5_unlucky_X5_late rfl rfl rfl (by decide +kernel) ⟨Nat.le_of_ble_eq_true rfl, Nat.le_of_ble_eq_true rfl⟩) (by decide) (gk_39 E o _) rfl rfl rfl hl.1 rfl (Nat.le_of_ble_eq_true rfl) ⟨Nat.le_of_ble_eq_true rfl, Nat.le_of_ble_eq_true rfl⟩ dX5_unlucky_122 (fun H locs I => ?_)
        refine lv_istore (lv' := [(8, .int r_42), (7, .int x_41), (0, .ref (ad E 39)), (1, .int b1), (2, .int b2), (3, .int b3), (4, .int b4), (5, .int b5), (9, .int v9)]) hx hb dX5_unlucky_125 hl (by decide) rfl (fun ls hl => ?_)
        obtain ⟨x_45, ex_45⟩ : ∃ y : Int32, y = (v9 + (1 : Int32)) := ⟨_, rfl⟩
        have hf := lt_at hf ex_45
        refine lv_iinc (v := x_45) (lv' := [(9, .int x_45), (8, .int r_42), (7, .int x_41), (0, .ref (ad E 39)), (1, .int b1), (2, .int b2), (3, .int b3), (4, .int b4), (5, .int b5)]) hx hb dX5_unlucky_127 hl (k := 8) rfl (by rw [ex_45]; rfl) (by decide) rfl (fun ls hl => ?_)
        refine lv_goto (tgt := 87) hx hb dX5_unlucky_130 (by decide) ?_
        exact ih x_41 r_42 x_45 σ_43 H locs ls hf I (lv_sub hl [3, 4, 5, 6, 7, 8, 2, 1, 0] rfl)
set_option maxHeartbeats 4000000 in
set_option maxRecDepth 100000 in
theorem c_X5_unlucky (l : Launch) (E : En) (o : Int64) (a1 : Int32) (a2 : Int32) (a3 : Int32) (a4 : Int32) (a5 : Int32) (σ : St) {res : Int32 × St} (hf : f_X5_unlucky a1 a2 a3 a4 a5 σ = some res) : CI l yX5_unlucky wsX5_unlucky rm_X5_unlucky E [.ref (ad E 39), .int a1, .int a2, .int a3, .int a4, .int a5] o σ res.1 res.2 := by
  intro sz
  refine Met.ofW (cc := cX5_unlucky) (maxL := 10) (ret := (some .int)) (by decide) rfl ?_
  intro p e s m args below meth c s₁ B hml hv
  obtain ⟨rfl, hv⟩ := hv
  obtain ⟨rfl, hK, I⟩ := hv.start
  have C : Cx p c cX5_unlucky 10 s m _ wsX5_unlucky RX5 E := ⟨⟨B.exec, B.bytes, hml, findClass_of_methodNamed B.named, atoms_spec (ws := wsX5_unlucky) B.pre⟩, hK⟩
  have hx := C.1.1
  have hb := C.1.2.1
  have hr := B.returns
  have hlocks := B.notSynchronized
  clear hv
  have hl := lv_entry ([.ref (ad E 39), .int a1, .int a2, .int a3, .int a4, .int a5]) (n := 10) (Nat.le_of_ble_eq_true rfl)
  rw [lg_entry_eq]
  generalize (lg_sl ([.ref (ad E 39), .int a1, .int a2, .int a3, .int a4, .int a5]) ++ List.replicate (10 - (lg_sl ([.ref (ad E 39), .int a1, .int a2, .int a3, .int a4, .int a5])).length) Slot.unset).toArray = ls at hl ⊢
  have hl : lv_has ls 10 [(0, .ref (ad E 39)), (1, .int a1), (2, .int a2), (3, .int a3), (4, .int a4), (5, .int a5)] := hl
  generalize ([.ref (ad E 39), .int a1, .int a2, .int a3, .int a4, .int a5] : List Value).toArray = args at C ⊢
  refine g_begin I (fun H locs I => ?_)
  rw [f_X5_unlucky] at hf
  refine lv_iload_n hx hb dX5_unlucky_0 rfl (lv_at hl 3 rfl) ?_
  refine lv_iconst (v := (1 : Int32)) hx hb dX5_unlucky_1 (by decide) ?_
  refine lv_bipush (v := (8 : Int32)) hx hb dX5_unlucky_2 (by decide) ?_
  obtain ⟨r_1, σ_2, hg_3, hf⟩ := bd_some hf
  refine g_csi (av := [.int a3, .int (1 : Int32), .int (8 : Int32)]) (rest := []) C I AA.new (c_X5_in l E o a3 (1 : Int32) (8 : Int32) σ hg_3) (cwS 3 C.1.2.2.2.2 gX5_unlucky_X5_in rfl rfl rfl (by decide +kernel) ⟨Nat.le_of_ble_eq_true rfl, Nat.le_of_ble_eq_true rfl⟩) rfl hl.1 rfl (Nat.le_of_ble_eq_true rfl) ⟨Nat.le_of_ble_eq_true rfl, Nat.le_of_ble_eq_true rfl⟩ dX5_unlucky_4 (fun H locs I => ?_)
  obtain ⟨J_5, eJ_5, hf⟩ := lt_split hf
  have hJ_5 : ∀ (y_14 : Int32) (σ_15 : St) (H : Heap) (locs : List Loc) (ls : Array Slot), J_5 y_14 σ_15 = some res → Iv E (AA E s.heap.size) s.heap o σ_15 H locs → lv_has ls 10 [(0, .ref (ad E 39)), (1, .int a1), (2, .int a2), (3, .int a3), (4, .int a4), (5, .int a5)] → WW_X5_unlucky p l e s m args below meth c E o res H locs 0 0 (F0 m 34 ls [.int y_14]) := by
    intro y_14 σ_15 H locs ls hf I hl
    rw [eJ_5] at hf
    refine lv_istore (lv' := [(6, .int y_14), (0, .ref (ad E 39)), (1, .int a1), (2, .int a2), (3, .int a3), (4, .int a4), (5, .int a5)]) hx hb dX5_unlucky_34 hl (by decide) rfl (fun ls hl => ?_)
    refine lv_aload_n hx hb dX5_unlucky_36 rfl (lv_at hl 1 rfl) ?_
    refine lv_iload_n hx hb dX5_unlucky_37 rfl (lv_at hl 2 rfl) ?_
    refine lv_iconst (v := (0 : Int32)) hx hb dX5_unlucky_38 (by decide) ?_
    refine lv_iconst (v := (3 : Int32)) hx hb dX5_unlucky_39 (by decide) ?_
    obtain ⟨r_16, σ_17, hg_18, hf⟩ := bd_some hf
    refine g_csi (av := [.int a1, .int (0 : Int32), .int (3 : Int32)]) (rest := [.ref (ad E 39)]) C I AA.new (c_X5_in l E o a1 (0 : Int32) (3 : Int32) σ_15 hg_18) (cwS 3 C.1.2.2.2.2 gX5_unlucky_X5_in rfl rfl rfl (by decide +kernel) ⟨Nat.le_of_ble_eq_true rfl, Nat.le_of_ble_eq_true rfl⟩) rfl hl.1 rfl (Nat.le_of_ble_eq_true rfl) ⟨Nat.le_of_ble_eq_true rfl, Nat.le_of_ble_eq_true rfl⟩ dX5_unlucky_40 (fun H locs I => ?_)
    obtain ⟨J_20, eJ_20, hf⟩ := lt_split hf
    have hJ_20 : ∀ (y_21 : Int32) (σ_22 : St) (H : Heap) (locs : List Loc) (ls : Array Slot), J_20 y_21 σ_22 = some res → Iv E (AA E s.heap.size) s.heap o σ_22 H locs → lv_has ls 10 [(0, .ref (ad E 39)), (1, .int a1), (2, .int a2), (3, .int a3), (4, .int a4), (5, .int a5), (6, .int y_14)] → WW_X5_unlucky p l e s m args below meth c E o res H locs 0 0 (F0 m 51 ls [.int y_21, .ref (ad E 39)]) := by
      intro y_21 σ_22 H locs ls hf I hl
      rw [eJ_20] at hf
      refine lv_iload hx hb dX5_unlucky_51 (lv_at hl 6 rfl) ?_
      refine lv_iload hx hb dX5_unlucky_53 (lv_at hl 5 rfl) ?_
      obtain ⟨J_24, eJ_24, hf⟩ := lt_split hf
      have hJ_24 : ∀ (y_26 : Int32) (σ_27 : St) (H : Heap) (locs : List Loc) (ls : Array Slot), J_24 y_26 σ_27 = some res → Iv E (AA E s.heap.size) s.heap o σ_27 H locs → lv_has ls 10 [(0, .ref (ad E 39)), (1, .int a1), (2, .int a2), (3, .int a3), (4, .int a4), (5, .int a5)] → WW_X5_unlucky p l e s m args below meth c E o res H locs 0 0 (F0 m 70 ls [.int y_26, .int y_14, .int y_21, .ref (ad E 39)]) := by
        intro y_26 σ_27 H locs ls hf I hl
        rw [eJ_24] at hf
        obtain ⟨r_28, σ_29, hg_30, hf⟩ := bd_some hf
        refine g_cvi (av := [.int y_21, .int y_14, .int y_26]) (rest := []) (k := 39) C I AA.new (c_X5_throwing l E o y_21 y_14 y_26 σ_27 hg_30) (cwV 3 C.1.2.2.2.2 gX5_unlucky_X5_throwing rfl rfl rfl (by decide +kernel) ⟨Nat.le_of_ble_eq_true rfl, Nat.le_of_ble_eq_true rfl⟩) (by decide) (gk_39 E o _) rfl rfl rfl hl.1 rfl (Nat.le_of_ble_eq_true rfl) ⟨Nat.le_of_ble_eq_true rfl, Nat.le_of_ble_eq_true rfl⟩ dX5_unlucky_70 (fun H locs I => ?_)
        refine lv_if_eq (tgt := 78) hx hb dX5_unlucky_73 (by decide) (fun c_31 => ?_) (fun c_31 => ?_)
        · have hf := if_t hf c_31
          refine lv_iload_n hx hb dX5_unlucky_78 rfl (lv_at hl 2 rfl) ?_
          refine lv_istore (lv' := [(7, .int a2), (0, .ref (ad E 39)), (1, .int a1), (2, .int a2), (3, .int a3), (4, .int a4), (5, .int a5)]) hx hb dX5_unlucky_79 hl (by decide) rfl (fun ls hl => ?_)
          refine lv_iconst (v := (-1 : Int32)) hx hb dX5_unlucky_81 (by decide) ?_
          refine lv_istore (lv' := [(8, .int (-1 : Int32)), (7, .int a2), (0, .ref (ad E 39)), (1, .int a1), (2, .int a2), (3, .int a3), (4, .int a4), (5, .int a5)]) hx hb dX5_unlucky_82 hl (by decide) rfl (fun ls hl => ?_)
          refine lv_iconst (v := (0 : Int32)) hx hb dX5_unlucky_84 (by decide) ?_
          refine lv_istore (lv' := [(9, .int (0 : Int32)), (8, .int (-1 : Int32)), (7, .int a2), (0, .ref (ad E 39)), (1, .int a1), (2, .int a2), (3, .int a3), (4, .int a4), (5, .int a5)]) hx hb dX5_unlucky_85 hl (by decide) rfl (fun ls hl => ?_)
          refine lp_X5_unlucky_87 C hr hlocks a1 a2 a3 a4 a5 _ ?_ _ a2 (-1 : Int32) (0 : Int32) σ_29 H locs ls hf I (lv_sub hl [3, 4, 5, 6, 7, 8, 2, 1, 0] rfl)
          · intro y_46 σ_47 H locs ls hf I hl
            refine lv_aload_n hx hb dX5_unlucky_133 rfl (lv_at hl 0 rfl) ?_
            obtain ⟨r_48, σ_49, hg_50, hf⟩ := bd_some hf
            refine g_cvv (av := []) (rest := []) (k := 39) C I AA.new (c_X5_forget l E o σ_47 hg_50) (cwV 0 C.1.2.2.2.2 gX5_unlucky_X5_forget rfl rfl rfl (by decide +kernel) ⟨Nat.le_of_ble_eq_true rfl, Nat.le_of_ble_eq_true rfl⟩) (by decide) (gk_39 E o _) rfl rfl rfl hl.1 rfl (Nat.le_of_ble_eq_true rfl) ⟨Nat.le_of_ble_eq_true rfl, Nat.le_of_ble_eq_true rfl⟩ dX5_unlucky_134 (fun H locs I => ?_)
            refine lv_iload hx hb dX5_unlucky_137 (lv_at hl 1 rfl) ?_
            exact g_iret C I hr hlocks hf dX5_unlucky_139
        · have hf := if_f hf c_31
          refine lv_iconst (v := (0 : Int32)) hx hb dX5_unlucky_76 (by decide) ?_
          exact g_iret C I hr hlocks hf dX5_unlucky_77
      refine lv_if_le (tgt := 69) hx hb dX5_unlucky_55 (by decide) (fun c_23 => ?_) (fun c_23 => ?_)
      · have hf := if_t hf c_23
        refine lv_iconst (v := (0 : Int32)) hx hb dX5_unlucky_69 (by decide) ?_
        exact hJ_24 _ σ_22 H locs ls hf I (lv_sub hl [0, 1, 2, 3, 4, 5] rfl)
      · have hf := if_f hf c_23
        refine lv_aload_n hx hb dX5_unlucky_58 rfl (lv_at hl 0 rfl) ?_
        refine g_get (k := 39) (v := .int (σ_22 39 6)) C I (by decide) (gk_39 E o _) rfl in_X5_unlucky_X5 6 (by decide) (C.1.2.2.2.2 _ k_X5_unlucky_83) rfl dX5_unlucky_59 ?_
        refine lv_if_ne (tgt := 69) hx hb dX5_unlucky_62 (by decide) (fun c_25 => ?_) (fun c_25 => ?_)
        · have hf := if_f hf c_25
          refine lv_iconst (v := (0 : Int32)) hx hb dX5_unlucky_69 (by decide) ?_
          exact hJ_24 _ σ_22 H locs ls hf I (lv_sub hl [0, 1, 2, 3, 4, 5] rfl)
        · have hf := if_t hf c_25
          refine lv_iconst (v := (1 : Int32)) hx hb dX5_unlucky_65 (by decide) ?_
          refine lv_goto (tgt := 70) hx hb dX5_unlucky_66 (by decide) ?_
          exact hJ_24 _ σ_22 H locs ls hf I (lv_sub hl [0, 1, 2, 3, 4, 5] rfl)
    refine lv_if_ne (tgt := 50) hx hb dX5_unlucky_43 (by decide) (fun c_19 => ?_) (fun c_19 => ?_)
    · have hf := if_f hf c_19
      refine lv_iconst (v := (0 : Int32)) hx hb dX5_unlucky_50 (by decide) ?_
      exact hJ_20 _ σ_17 H locs ls hf I (lv_sub hl [1, 2, 3, 4, 5, 6, 0] rfl)
    · have hf := if_t hf c_19
      refine lv_iconst (v := (1 : Int32)) hx hb dX5_unlucky_46 (by decide) ?_
      refine lv_goto (tgt := 51) hx hb dX5_unlucky_47 (by decide) ?_
      exact hJ_20 _ σ_17 H locs ls hf I (lv_sub hl [1, 2, 3, 4, 5, 6, 0] rfl)
  refine lv_if_eq (tgt := 29) hx hb dX5_unlucky_7 (by decide) (fun c_4 => ?_) (fun c_4 => ?_)
  · have hf := if_t hf c_4
    refine lv_iconst (v := (1 : Int32)) hx hb dX5_unlucky_29 (by decide) ?_
    refine lv_goto (tgt := 34) hx hb dX5_unlucky_30 (by decide) ?_
    exact hJ_5 _ σ_2 H locs ls hf I (lv_sub hl [0, 1, 2, 3, 4, 5] rfl)
  · have hf := if_f hf c_4
    refine lv_iload hx hb dX5_unlucky_10 (lv_at hl 4 rfl) ?_
    obtain ⟨r_6, σ_7, hg_8, hf⟩ := bd_some hf
    refine g_csi (av := [.int a4]) (rest := []) C I AA.new (c_X5_isDay l E o a4 σ_2 hg_8) (cwS 1 C.1.2.2.2.2 gX5_unlucky_X5_isDay rfl rfl rfl (by decide +kernel) ⟨Nat.le_of_ble_eq_true rfl, Nat.le_of_ble_eq_true rfl⟩) rfl hl.1 rfl (Nat.le_of_ble_eq_true rfl) ⟨Nat.le_of_ble_eq_true rfl, Nat.le_of_ble_eq_true rfl⟩ dX5_unlucky_12 (fun H locs I => ?_)
    refine lv_if_eq (tgt := 29) hx hb dX5_unlucky_15 (by decide) (fun c_9 => ?_) (fun c_9 => ?_)
    · have hf := if_t hf c_9
      refine lv_iconst (v := (1 : Int32)) hx hb dX5_unlucky_29 (by decide) ?_
      refine lv_goto (tgt := 34) hx hb dX5_unlucky_30 (by decide) ?_
      exact hJ_5 _ σ_7 H locs ls hf I (lv_sub hl [0, 1, 2, 3, 4, 5] rfl)
    · have hf := if_f hf c_9
      refine lv_iload hx hb dX5_unlucky_18 (lv_at hl 5 rfl) ?_
      refine lv_iconst (v := (0 : Int32)) hx hb dX5_unlucky_20 (by decide) ?_
      refine lv_bipush (v := (60 : Int32)) hx hb dX5_unlucky_21 (by decide) ?_
      obtain ⟨r_10, σ_11, hg_12, hf⟩ := bd_some hf
      refine g_csi (av := [.int a5, .int (0 : Int32), .int (60 : Int32)]) (rest := []) C I AA.new (c_X5_in l E o a5 (0 : Int32) (60 : Int32) σ_7 hg_12) (cwS 3 C.1.2.2.2.2 gX5_unlucky_X5_in rfl rfl rfl (by decide +kernel) ⟨Nat.le_of_ble_eq_true rfl, Nat.le_of_ble_eq_true rfl⟩) rfl hl.1 rfl (Nat.le_of_ble_eq_true rfl) ⟨Nat.le_of_ble_eq_true rfl, Nat.le_of_ble_eq_true rfl⟩ dX5_unlucky_23 (fun H locs I => ?_)
      refine lv_if_ne (tgt := 33) hx hb dX5_unlucky_26 (by decide) (fun c_13 => ?_) (fun c_13 => ?_)
      · have hf := if_f hf c_13
        refine lv_iconst (v := (0 : Int32)) hx hb dX5_unlucky_33 (by decide) ?_
        exact hJ_5 _ σ_11 H locs ls hf I (lv_sub hl [0, 1, 2, 3, 4, 5] rfl)
      · have hf := if_t hf c_13
        refine lv_iconst (v := (1 : Int32)) hx hb dX5_unlucky_29 (by decide) ?_
        refine lv_goto (tgt := 34) hx hb dX5_unlucky_30 (by decide) ?_
        exact hJ_5 _ σ_11 H locs ls hf I (lv_sub hl [0, 1, 2, 3, 4, 5] rfl)
abbrev rm_X5_compare : Room := { frames := 4, cells := 0, slots := 0, locals := 98 }
abbrev WW_X5_compare (p : Program) (l : Launch) (e : Env) (s : State) (m : MethodId) (args : Array Value) (below : List Frame) (meth : Method) (c : Code) (E : En) (o : Int64) (res : Int32 × St) (H : Heap) (locs : List Loc) (cells slots : Nat) (g : JFrame) : Prop := W p l e (headSpec wsX5_compare rm_X5_compare).room s m args below meth c H locs cells slots (MQ below (Qi E s.heap.size o res.1 res.2) args s 0 0 (AA E s.heap.size)) g
theorem k_X5_compare_83 : Cond.fieldLink RX5 83 "DaySimulateModel" "areas" "I" ∈ wsX5_compare := by decide +kernel
theorem in_X5_compare_X5 : ∀ w ∈ wsX50, w ∈ wsX5_compare := by decide +kernel
set_option maxHeartbeats 4000000 in
set_option maxRecDepth 100000 in
theorem lp_X5_compare_106 {l : Launch} {p : Program} {e : Env} {s : State} {m : MethodId} {args : Array Value} {below : List Frame} {meth : Method} {c : Code} {E : En} {o : Int64} {res : Int32 × St} (C : Cx p c cX5_compare 15 s m args wsX5_compare RX5 E) (hr : meth.sig.returnType = (some .int)) (hlocks : meth.locks = false) (b1 : Int32) (b2 : Int32) (b3 : Int32) (b4 : Int32) (b5 : Int32) (b6 : Int32) (K191 : Int32 → Int32 → St → Option (Int32 × St)) (hK191 : ∀ (u9 : Int32) (u10 : Int32) (σ : St) (H : Heap) (locs : List Loc) (ls : Array Slot), K191 u9 u10 σ = some res → Iv E (AA E s.heap.size) s.heap o σ H locs → lv_has ls 15 [(0, .ref (ad E 39)), (6, .int b6), (9, .int u9), (10, .int u10)] → WW_X5_compare p l e s m args below meth c E o res H locs 0 0 (F0 m 191 ls [])) :
    ∀ (n : Nat) (v9 : Int32) (v10 : Int32) (v11 : Int32) (σ : St) (H : Heap) (locs : List Loc) (ls : Array Slot), f_X5_compare_L106 b1 b2 b3 b4 b5 b6 K191 n v9 v10 v11 σ = some res → Iv E (AA E s.heap.size) s.heap o σ H locs → lv_has ls 15 [(0, .ref (ad E 39)), (1, .int b1), (2, .int b2), (3, .int b3), (4, .int b4), (5, .int b5), (6, .int b6), (9, .int v9), (10, .int v10), (11, .int v11)] → WW_X5_compare p l e s m args below meth c E o res H locs 0 0 (F0 m 106 ls []) := by
  have hx := C.1.1
  have hb := C.1.2.1
  intro n
  induction n with
  | zero => intro v9 v10 v11 σ H locs ls hf _ _; cases (show (none : Option (Int32 × St)) = some res from hf)
  | succ n ih =>
    intro v9 v10 v11 σ H locs ls hf I hl
    rw [f_X5_compare_L106] at hf
    refine lv_iload hx hb dX5_compare_106 (lv_at hl 9 rfl) ?_
    refine lv_iload hx hb dX5_compare_108 (lv_at hl 5 rfl) ?_
    refine lv_icmp_ge (tgt := 191) hx hb dX5_compare_110 (by decide) (fun c_36 => ?_) (fun c_36 => ?_)
    · have hf := if_t hf c_36
      exact hK191 v9 v10 σ H locs ls hf I (lv_sub hl [0, 6, 7, 8] rfl)
    · have hf := if_f hf c_36
      refine lv_aload_n hx hb dX5_compare_113 rfl (lv_at hl 0 rfl) ?_
      refine lv_iload_n hx hb dX5_compare_114 rfl (lv_at hl 1 rfl) ?_
      refine lv_iload_n hx hb dX5_compare_115 rfl (lv_at hl 3 rfl) ?_
      refine lv_iload hx hb dX5_compare_116 (lv_at hl 4 rfl) ?_
      refine lv_iload hx hb dX5_compare_118 (lv_at hl 9 rfl) ?_
      refine lv_iadd hx hb dX5_compare_120 ?_
      refine lv_bipush (v := (12 : Int32)) hx hb dX5_compare_121 (by decide) ?_
      obtain ⟨r_37, σ_38, hg_39, hf⟩ := bd_some hf
      refine g_cvv (av := [.int b1, .int b3, .int (b4 + v11), .int (12 : Int32)]) (rest := []) (k := 39) C I AA.new (c_X5_play l E o b1 b3 ((b4 + v11)) (12 : Int32) σ hg_39) (cwV 4 C.1.2.2.2.2 gX5_compare_X5_play rfl rfl rfl (by decide +kernel) ⟨Nat.le_of_ble_eq_true rfl, Nat.le_of_ble_eq_true rfl⟩) (by decide) (gk_39 E o _) rfl rfl rfl hl.1 rfl (Nat.le_of_ble_eq_true rfl) ⟨Nat.le_of_ble_eq_true rfl, Nat.le_of_ble_eq_true rfl⟩ dX5_compare_123 (fun H locs I => ?_)
      refine lv_aload_n hx hb dX5_compare_126 rfl (lv_at hl 0 rfl) ?_
      obtain ⟨r_40, σ_41, hg_42, hf⟩ := bd_some hf
      refine g_cvi (av := []) (rest := []) (k := 39) C I AA.new (c_X5_late l E o σ_38 hg_42) (cwV 0 C.1.2.2.2.2 gX5_compare_X5_late rfl rfl rfl (by decide +kernel) ⟨Nat.le_of_ble_eq_true rfl, Nat.le_of_ble_eq_true rfl⟩) (by decide) (gk_39 E o _) rfl rfl rfl hl.1 rfl (Nat.le_of_ble_eq_true rfl) ⟨Nat.le_of_ble_eq_true rfl, Nat.le_of_ble_eq_true rfl⟩ dX5_compare_127 (fun H locs I => ?_)
      refine lv_istore (lv' := [(12, .int r_40), (0, .ref (ad E 39)), (1, .int b1), (2, .int b2), (3, .int b3), (4, .int b4), (5, .int b5), (6, .int b6), (9, .int v9), (10, .int v10), (11, .int v11)]) hx hb dX5_compare_130 hl (by decide) rfl (fun ls hl => ?_)
      refine lv_aload_n hx hb dX5_compare_132 rfl (lv_at hl 1 rfl) ?_
      refine lv_iload_n hx hb dX5_compare_133 rfl (lv_at hl 3 rfl) ?_
      refine lv_iload_n hx hb dX5_compare_134 rfl (lv_at hl 4 rfl) ?_
      refine lv_iload hx hb dX5_compare_135 (lv_at hl 5 rfl) ?_
      refine lv_iload hx hb dX5_compare_137 (lv_at hl 10 rfl) ?_
      refine lv_iadd hx hb dX5_compare_139 ?_
      refine lv_bipush (v := (12 : Int32)) hx hb dX5_compare_140 (by decide) ?_
      obtain ⟨r_43, σ_44, hg_45, hf⟩ := bd_some hf
      refine g_cvv (av := [.int b2, .int b3, .int (b4 + v11), .int (12 : Int32)]) (rest := []) (k := 39) C I AA.new (c_X5_play l E o b2 b3 ((b4 + v11)) (12 : Int32) σ_41 hg_45) (cwV 4 C.1.2.2.2.2 gX5_compare_X5_play rfl rfl rfl (by decide +kernel) ⟨Nat.le_of_ble_eq_true rfl, Nat.le_of_ble_eq_true rfl⟩) (by decide) (gk_39 E o _) rfl rfl rfl hl.1 rfl (Nat.le_of_ble_eq_true rfl) ⟨Nat.le_of_ble_eq_true rfl, Nat.le_of_ble_eq_true rfl⟩ dX5_compare_142 (fun H locs I => ?_)
      refine lv_aload_n hx hb dX5_compare_145 rfl (lv_at hl 1 rfl) ?_
      obtain ⟨r_46, σ_47, hg_48, hf⟩ := bd_some hf
      refine g_cvi (av := []) (rest := []) (k := 39) C I AA.new (c_X5_late l E o σ_44 hg_48) (cwV 0 C.1.2.2.2.2 gX5_compare_X5_late rfl rfl rfl (by decide +kernel) ⟨Nat.le_of_ble_eq_true rfl, Nat.le_of_ble_eq_true rfl⟩) (by decide) (gk_39 E o _) rfl rfl rfl hl.1 rfl (Nat.le_of_ble_eq_true rfl) ⟨Nat.le_of_ble_eq_true rfl, Nat.le_of_ble_eq_true rfl⟩ dX5_compare_146 (fun H locs I => ?_)
      refine lv_istore (lv' := [(13, .int r_46), (12, .int r_40), (0, .ref (ad E 39)), (1, .int b1), (2, .int b2), (3, .int b3), (4, .int b4), (5, .int b5), (6, .int b6), (9, .int v9), (10, .int v10), (11, .int v11)]) hx hb dX5_compare_149 hl (by decide) rfl (fun ls hl => ?_)
      refine lv_iload hx hb dX5_compare_151 (lv_at hl 9 rfl) ?_
      refine lv_iload hx hb dX5_compare_153 (lv_at hl 1 rfl) ?_
      refine lv_iload hx hb dX5_compare_155 (lv_at hl 0 rfl) ?_
      obtain ⟨J_50, eJ_50, hf⟩ := lt_split hf
      have hJ_50 : ∀ (y_51 : Int32) (σ_52 : St) (H : Heap) (locs : List Loc) (ls : Array Slot), J_50 y_51 σ_52 = some res → Iv E (AA E s.heap.size) s.heap o σ_52 H locs → lv_has ls 15 [(0, .ref (ad E 39)), (1, .int b1), (2, .int b2), (3, .int b3), (4, .int b4), (5, .int b5), (6, .int b6), (10, .int v10), (11, .int v11), (12, .int r_40), (13, .int r_46)] → WW_X5_compare p l e s m args below meth c E o res H locs 0 0 (F0 m 165 ls [.int y_51, .int v9]) := by
        intro y_51 σ_52 H locs ls hf I hl
        rw [eJ_50] at hf
        refine lv_iadd hx hb dX5_compare_165 ?_
        refine lv_topi (fun x_53 ex_53 => ?_)
        have hf := lt_at hf ex_53
        refine lv_istore (lv' := [(9, .int x_53), (0, .ref (ad E 39)), (1, .int b1), (2, .int b2), (3, .int b3), (4, .int b4), (5, .int b5), (6, .int b6), (10, .int v10), (11, .int v11), (12, .int r_40), (13, .int r_46)]) hx hb dX5_compare_166 hl (by decide) rfl (fun ls hl => ?_)
        refine lv_iload hx hb dX5_compare_168 (lv_at hl 8 rfl) ?_
        refine lv_iload hx hb dX5_compare_170 (lv_at hl 10 rfl) ?_
        refine lv_iload hx hb dX5_compare_172 (lv_at hl 11 rfl) ?_
        refine lv_icmp_le (tgt := 181) hx hb dX5_compare_174 (by decide) (fun c_54 => ?_) (fun c_54 => ?_)
        · have hf := if_t hf c_54
          refine lv_iconst (v := (0 : Int32)) hx hb dX5_compare_181 (by decide) ?_
          refine lv_iadd hx hb dX5_compare_182 ?_
          refine lv_topi (fun x_55 ex_55 => ?_)
          have hf := lt_at hf ex_55
          refine lv_istore (lv' := [(10, .int x_55), (9, .int x_53), (0, .ref (ad E 39)), (1, .int b1), (2, .int b2), (3, .int b3), (4, .int b4), (5, .int b5), (6, .int b6), (11, .int v11), (12, .int r_40), (13, .int r_46)]) hx hb dX5_compare_183 hl (by decide) rfl (fun ls hl => ?_)
          obtain ⟨x_56, ex_56⟩ : ∃ y : Int32, y = (v11 + (1 : Int32)) := ⟨_, rfl⟩
          have hf := lt_at hf ex_56
          refine lv_iinc (v := x_56) (lv' := [(11, .int x_56), (10, .int x_55), (9, .int x_53), (0, .ref (ad E 39)), (1, .int b1), (2, .int b2), (3, .int b3), (4, .int b4), (5, .int b5), (6, .int b6), (12, .int r_40), (13, .int r_46)]) hx hb dX5_compare_185 hl (k := 9) rfl (by rw [ex_56]; rfl) (by decide) rfl (fun ls hl => ?_)
          refine lv_goto (tgt := 106) hx hb dX5_compare_188 (by decide) ?_
          exact ih x_53 x_55 x_56 σ_52 H locs ls hf I (lv_sub hl [3, 4, 5, 6, 7, 8, 9, 2, 1, 0] rfl)
        · have hf := if_f hf c_54
          refine lv_iconst (v := (1 : Int32)) hx hb dX5_compare_177 (by decide) ?_
          refine lv_goto (tgt := 182) hx hb dX5_compare_178 (by decide) ?_
          refine lv_iadd hx hb dX5_compare_182 ?_
          refine lv_topi (fun x_57 ex_57 => ?_)
          have hf := lt_at hf ex_57
          refine lv_istore (lv' := [(10, .int x_57), (9, .int x_53), (0, .ref (ad E 39)), (1, .int b1), (2, .int b2), (3, .int b3), (4, .int b4), (5, .int b5), (6, .int b6), (11, .int v11), (12, .int r_40), (13, .int r_46)]) hx hb dX5_compare_183 hl (by decide) rfl (fun ls hl => ?_)
          obtain ⟨x_58, ex_58⟩ : ∃ y : Int32, y = (v11 + (1 : Int32)) := ⟨_, rfl⟩
          have hf := lt_at hf ex_58
          refine lv_iinc (v := x_58) (lv' := [(11, .int x_58), (10, .int x_57), (9, .int x_53), (0, .ref (ad E 39)), (1, .int b1), (2, .int b2), (3, .int b3), (4, .int b4), (5, .int b5), (6, .int b6), (12, .int r_40), (13, .int r_46)]) hx hb dX5_compare_185 hl (k := 9) rfl (by rw [ex_58]; rfl) (by decide) rfl (fun ls hl => ?_)
          refine lv_goto (tgt := 106) hx hb dX5_compare_188 (by decide) ?_
          exact ih x_53 x_57 x_58 σ_52 H locs ls hf I (lv_sub hl [3, 4, 5, 6, 7, 8, 9, 2, 1, 0] rfl)
      refine lv_icmp_ge (tgt := 164) hx hb dX5_compare_157 (by decide) (fun c_49 => ?_) (fun c_49 => ?_)
      · have hf := if_t hf c_49
        refine lv_iconst (v := (0 : Int32)) hx hb dX5_compare_164 (by decide) ?_
        exact hJ_50 _ σ_47 H locs ls hf I (lv_sub hl [2, 3, 4, 5, 6, 7, 8, 10, 11, 1, 0] rfl)
      · have hf := if_f hf c_49
        refine lv_iconst (v := (1 : Int32)) hx hb dX5_compare_160 (by decide) ?_
        refine lv_goto (tgt := 165) hx hb dX5_compare_161 (by decide) ?_
        exact hJ_50 _ σ_47 H locs ls hf I (lv_sub hl [2, 3, 4, 5, 6, 7, 8, 10, 11, 1, 0] rfl)
set_option maxHeartbeats 4000000 in
set_option maxRecDepth 100000 in
theorem c_X5_compare (l : Launch) (E : En) (o : Int64) (a1 : Int32) (a2 : Int32) (a3 : Int32) (a4 : Int32) (a5 : Int32) (a6 : Int32) (σ : St) {res : Int32 × St} (hf : f_X5_compare a1 a2 a3 a4 a5 a6 σ = some res) : CI l yX5_compare wsX5_compare rm_X5_compare E [.ref (ad E 39), .int a1, .int a2, .int a3, .int a4, .int a5, .int a6] o σ res.1 res.2 := by
  intro sz
  refine Met.ofW (cc := cX5_compare) (maxL := 15) (ret := (some .int)) (by decide) rfl ?_
  intro p e s m args below meth c s₁ B hml hv
  obtain ⟨rfl, hv⟩ := hv
  obtain ⟨rfl, hK, I⟩ := hv.start
  have C : Cx p c cX5_compare 15 s m _ wsX5_compare RX5 E := ⟨⟨B.exec, B.bytes, hml, findClass_of_methodNamed B.named, atoms_spec (ws := wsX5_compare) B.pre⟩, hK⟩
  have hx := C.1.1
  have hb := C.1.2.1
  have hr := B.returns
  have hlocks := B.notSynchronized
  clear hv
  have hl := lv_entry ([.ref (ad E 39), .int a1, .int a2, .int a3, .int a4, .int a5, .int a6]) (n := 15) (Nat.le_of_ble_eq_true rfl)
  rw [lg_entry_eq]
  generalize (lg_sl ([.ref (ad E 39), .int a1, .int a2, .int a3, .int a4, .int a5, .int a6]) ++ List.replicate (15 - (lg_sl ([.ref (ad E 39), .int a1, .int a2, .int a3, .int a4, .int a5, .int a6])).length) Slot.unset).toArray = ls at hl ⊢
  have hl : lv_has ls 15 [(0, .ref (ad E 39)), (1, .int a1), (2, .int a2), (3, .int a3), (4, .int a4), (5, .int a5), (6, .int a6)] := hl
  generalize ([.ref (ad E 39), .int a1, .int a2, .int a3, .int a4, .int a5, .int a6] : List Value).toArray = args at C ⊢
  refine g_begin I (fun H locs I => ?_)
  rw [f_X5_compare] at hf
  refine lv_iload_n hx hb dX5_compare_0 rfl (lv_at hl 1 rfl) ?_
  refine lv_iconst (v := (0 : Int32)) hx hb dX5_compare_1 (by decide) ?_
  refine lv_iconst (v := (3 : Int32)) hx hb dX5_compare_2 (by decide) ?_
  obtain ⟨r_1, σ_2, hg_3, hf⟩ := bd_some hf
  refine g_csi (av := [.int a1, .int (0 : Int32), .int (3 : Int32)]) (rest := []) C I AA.new (c_X5_in l E o a1 (0 : Int32) (3 : Int32) σ hg_3) (cwS 3 C.1.2.2.2.2 gX5_compare_X5_in rfl rfl rfl (by decide +kernel) ⟨Nat.le_of_ble_eq_true rfl, Nat.le_of_ble_eq_true rfl⟩) rfl hl.1 rfl (Nat.le_of_ble_eq_true rfl) ⟨Nat.le_of_ble_eq_true rfl, Nat.le_of_ble_eq_true rfl⟩ dX5_compare_3 (fun H locs I => ?_)
  obtain ⟨J_5, eJ_5, hf⟩ := lt_split hf
  have hJ_5 : ∀ (y_14 : Int32) (σ_15 : St) (H : Heap) (locs : List Loc) (ls : Array Slot), J_5 y_14 σ_15 = some res → Iv E (AA E s.heap.size) s.heap o σ_15 H locs → lv_has ls 15 [(0, .ref (ad E 39)), (1, .int a1), (2, .int a2), (3, .int a3), (4, .int a4), (5, .int a5), (6, .int a6)] → WW_X5_compare p l e s m args below meth c E o res H locs 0 0 (F0 m 33 ls [.int y_14]) := by
    intro y_14 σ_15 H locs ls hf I hl
    rw [eJ_5] at hf
    refine lv_istore (lv' := [(7, .int y_14), (0, .ref (ad E 39)), (1, .int a1), (2, .int a2), (3, .int a3), (4, .int a4), (5, .int a5), (6, .int a6)]) hx hb dX5_compare_33 hl (by decide) rfl (fun ls hl => ?_)
    refine lv_iload hx hb dX5_compare_35 (lv_at hl 6 rfl) ?_
    refine lv_iconst (v := (1 : Int32)) hx hb dX5_compare_37 (by decide) ?_
    refine lv_bipush (v := (20 : Int32)) hx hb dX5_compare_38 (by decide) ?_
    obtain ⟨r_16, σ_17, hg_18, hf⟩ := bd_some hf
    refine g_csi (av := [.int a5, .int (1 : Int32), .int (20 : Int32)]) (rest := []) C I AA.new (c_X5_in l E o a5 (1 : Int32) (20 : Int32) σ_15 hg_18) (cwS 3 C.1.2.2.2.2 gX5_compare_X5_in rfl rfl rfl (by decide +kernel) ⟨Nat.le_of_ble_eq_true rfl, Nat.le_of_ble_eq_true rfl⟩) rfl hl.1 rfl (Nat.le_of_ble_eq_true rfl) ⟨Nat.le_of_ble_eq_true rfl, Nat.le_of_ble_eq_true rfl⟩ dX5_compare_40 (fun H locs I => ?_)
    obtain ⟨J_20, eJ_20, hf⟩ := lt_split hf
    have hJ_20 : ∀ (y_26 : Int32) (σ_27 : St) (H : Heap) (locs : List Loc) (ls : Array Slot), J_20 y_26 σ_27 = some res → Iv E (AA E s.heap.size) s.heap o σ_27 H locs → lv_has ls 15 [(0, .ref (ad E 39)), (1, .int a1), (2, .int a2), (3, .int a3), (4, .int a4), (5, .int a5), (6, .int a6), (7, .int y_14)] → WW_X5_compare p l e s m args below meth c E o res H locs 0 0 (F0 m 70 ls [.int y_26]) := by
      intro y_26 σ_27 H locs ls hf I hl
      rw [eJ_20] at hf
      refine lv_istore (lv' := [(8, .int y_26), (0, .ref (ad E 39)), (1, .int a1), (2, .int a2), (3, .int a3), (4, .int a4), (5, .int a5), (6, .int a6), (7, .int y_14)]) hx hb dX5_compare_70 hl (by decide) rfl (fun ls hl => ?_)
      refine lv_aload_n hx hb dX5_compare_72 rfl (lv_at hl 1 rfl) ?_
      refine lv_iload hx hb dX5_compare_73 (lv_at hl 8 rfl) ?_
      refine lv_iload hx hb dX5_compare_75 (lv_at hl 0 rfl) ?_
      refine lv_aload_n hx hb dX5_compare_77 rfl (lv_at hl 1 rfl) ?_
      refine g_get (k := 39) (v := .int (σ_27 39 6)) C I (by decide) (gk_39 E o _) rfl in_X5_compare_X5 6 (by decide) (C.1.2.2.2.2 _ k_X5_compare_83) rfl dX5_compare_78 ?_
      obtain ⟨J_29, eJ_29, hf⟩ := lt_split hf
      have hJ_29 : ∀ (y_30 : Int32) (σ_31 : St) (H : Heap) (locs : List Loc) (ls : Array Slot), J_29 y_30 σ_31 = some res → Iv E (AA E s.heap.size) s.heap o σ_31 H locs → lv_has ls 15 [(0, .ref (ad E 39)), (1, .int a1), (2, .int a2), (3, .int a3), (4, .int a4), (5, .int a5), (6, .int a6)] → WW_X5_compare p l e s m args below meth c E o res H locs 0 0 (F0 m 89 ls [.int y_30, .int y_26, .int y_14, .ref (ad E 39)]) := by
        intro y_30 σ_31 H locs ls hf I hl
        rw [eJ_29] at hf
        obtain ⟨r_32, σ_33, hg_34, hf⟩ := bd_some hf
        refine g_cvi (av := [.int y_14, .int y_26, .int y_30]) (rest := []) (k := 39) C I AA.new (c_X5_throwing l E o y_14 y_26 y_30 σ_31 hg_34) (cwV 3 C.1.2.2.2.2 gX5_compare_X5_throwing rfl rfl rfl (by decide +kernel) ⟨Nat.le_of_ble_eq_true rfl, Nat.le_of_ble_eq_true rfl⟩) (by decide) (gk_39 E o _) rfl rfl rfl hl.1 rfl (Nat.le_of_ble_eq_true rfl) ⟨Nat.le_of_ble_eq_true rfl, Nat.le_of_ble_eq_true rfl⟩ dX5_compare_89 (fun H locs I => ?_)
        refine lv_if_eq (tgt := 97) hx hb dX5_compare_92 (by decide) (fun c_35 => ?_) (fun c_35 => ?_)
        · have hf := if_t hf c_35
          refine lv_iconst (v := (0 : Int32)) hx hb dX5_compare_97 (by decide) ?_
          refine lv_istore (lv' := [(9, .int (0 : Int32)), (0, .ref (ad E 39)), (1, .int a1), (2, .int a2), (3, .int a3), (4, .int a4), (5, .int a5), (6, .int a6)]) hx hb dX5_compare_98 hl (by decide) rfl (fun ls hl => ?_)
          refine lv_iconst (v := (0 : Int32)) hx hb dX5_compare_100 (by decide) ?_
          refine lv_istore (lv' := [(10, .int (0 : Int32)), (9, .int (0 : Int32)), (0, .ref (ad E 39)), (1, .int a1), (2, .int a2), (3, .int a3), (4, .int a4), (5, .int a5), (6, .int a6)]) hx hb dX5_compare_101 hl (by decide) rfl (fun ls hl => ?_)
          refine lv_iconst (v := (0 : Int32)) hx hb dX5_compare_103 (by decide) ?_
          refine lv_istore (lv' := [(11, .int (0 : Int32)), (10, .int (0 : Int32)), (9, .int (0 : Int32)), (0, .ref (ad E 39)), (1, .int a1), (2, .int a2), (3, .int a3), (4, .int a4), (5, .int a5), (6, .int a6)]) hx hb dX5_compare_104 hl (by decide) rfl (fun ls hl => ?_)
          refine lp_X5_compare_106 C hr hlocks a1 a2 a3 a4 a5 a6 _ ?_ _ (0 : Int32) (0 : Int32) (0 : Int32) σ_33 H locs ls hf I (lv_sub hl [3, 4, 5, 6, 7, 8, 9, 2, 1, 0] rfl)
          · intro y_59 y_60 σ_61 H locs ls hf I hl
            refine lv_aload_n hx hb dX5_compare_191 rfl (lv_at hl 0 rfl) ?_
            obtain ⟨r_62, σ_63, hg_64, hf⟩ := bd_some hf
            refine g_cvv (av := []) (rest := []) (k := 39) C I AA.new (c_X5_forget l E o σ_61 hg_64) (cwV 0 C.1.2.2.2.2 gX5_compare_X5_forget rfl rfl rfl (by decide +kernel) ⟨Nat.le_of_ble_eq_true rfl, Nat.le_of_ble_eq_true rfl⟩) (by decide) (gk_39 E o _) rfl rfl rfl hl.1 rfl (Nat.le_of_ble_eq_true rfl) ⟨Nat.le_of_ble_eq_true rfl, Nat.le_of_ble_eq_true rfl⟩ dX5_compare_192 (fun H locs I => ?_)
            refine lv_iload hx hb dX5_compare_195 (lv_at hl 1 rfl) ?_
            refine lv_iconst (v := (2 : Int32)) hx hb dX5_compare_197 (by decide) ?_
            refine lv_icmp_ge (tgt := 214) hx hb dX5_compare_198 (by decide) (fun c_65 => ?_) (fun c_65 => ?_)
            · have hf := if_t hf c_65
              refine lv_lconst (v := (1 : Int64)) hx hb dX5_compare_214 (by decide) ?_
              refine lv_iload hx hb dX5_compare_215 (lv_at hl 2 rfl) ?_
              refine lv_iload hx hb dX5_compare_217 (lv_at hl 3 rfl) ?_
              refine lv_iadd hx hb dX5_compare_219 ?_
              refine lv_lshl hx hb dX5_compare_220 rfl ?_
              refine lv_topl (fun x_66 ex_66 => ?_)
              have hf := lt_at hf ex_66
              refine lv_lstore (lv' := [(11, .long x_66), (0, .ref (ad E 39)), (6, .int a6), (9, .int y_59), (10, .int y_60)]) hx hb dX5_compare_221 hl (by decide) rfl (fun ls hl => ?_)
              refine lv_iload hx hb dX5_compare_223 (lv_at hl 3 rfl) ?_
              refine lv_iload hx hb dX5_compare_225 (lv_at hl 4 rfl) ?_
              refine lv_iadd hx hb dX5_compare_227 ?_
              refine lv_iload hx hb dX5_compare_228 (lv_at hl 3 rfl) ?_
              obtain ⟨r_67, σ_68, hg_69, hf⟩ := bd_some hf
              refine g_csl (av := [.int (y_59 + y_60), .int y_59]) (rest := []) C I AA.new (c_X5_tail l E o ((y_59 + y_60)) y_59 σ_63 hg_69) (cwS 2 C.1.2.2.2.2 gX5_compare_X5_tail rfl rfl rfl (by decide +kernel) ⟨Nat.le_of_ble_eq_true rfl, Nat.le_of_ble_eq_true rfl⟩) rfl hl.1 rfl (Nat.le_of_ble_eq_true rfl) ⟨Nat.le_of_ble_eq_true rfl, Nat.le_of_ble_eq_true rfl⟩ dX5_compare_230 (fun H locs I => ?_)
              refine lv_lstore (lv' := [(13, .long r_67), (11, .long x_66), (0, .ref (ad E 39)), (6, .int a6), (9, .int y_59), (10, .int y_60)]) hx hb dX5_compare_233 hl (by decide) rfl (fun ls hl => ?_)
              refine lv_iload hx hb dX5_compare_235 (lv_at hl 3 rfl) ?_
              refine lv_iconst (v := (2 : Int32)) hx hb dX5_compare_237 (by decide) ?_
              obtain ⟨J_71, eJ_71, hf⟩ := lt_split hf
              have hJ_71 : ∀ (y_72 : Int64) (σ_73 : St) (H : Heap) (locs : List Loc) (ls : Array Slot), J_71 y_72 σ_73 = some res → Iv E (AA E s.heap.size) s.heap o σ_73 H locs → lv_has ls 15 [(11, .long x_66), (13, .long r_67)] → WW_X5_compare p l e s m args below meth c E o res H locs 0 0 (F0 m 248 ls [.long y_72]) := by
                intro y_72 σ_73 H locs ls hf I hl
                rw [eJ_71] at hf
                refine lv_lload hx hb dX5_compare_248 (lv_at hl 1 rfl) ?_
                refine lv_lload hx hb dX5_compare_250 (lv_at hl 0 rfl) ?_
                obtain ⟨r_74, σ_75, hg_76, hf⟩ := bd_some hf
                refine g_csl (av := [.long r_67, .long x_66]) (rest := [.long y_72]) C I AA.new (c_X5_common l E o r_67 x_66 σ_73 hg_76) (cwS 2 C.1.2.2.2.2 gX5_compare_X5_common rfl rfl rfl (by decide +kernel) ⟨Nat.le_of_ble_eq_true rfl, Nat.le_of_ble_eq_true rfl⟩) rfl hl.1 rfl (Nat.le_of_ble_eq_true rfl) ⟨Nat.le_of_ble_eq_true rfl, Nat.le_of_ble_eq_true rfl⟩ dX5_compare_252 (fun H locs I => ?_)
                obtain ⟨h_77, hf⟩ := ck_some hf
                refine lv_ldiv hx hb dX5_compare_255 (nzl_ne h_77) ?_
                refine lv_l2i hx hb dX5_compare_256 rfl ?_
                exact g_iret C I hr hlocks hf dX5_compare_257
              refine lv_icmp_ne (tgt := 246) hx hb dX5_compare_238 (by decide) (fun c_70 => ?_) (fun c_70 => ?_)
              · have hf := if_f hf c_70
                refine lv_lload hx hb dX5_compare_246 (lv_at hl 1 rfl) ?_
                exact hJ_71 _ σ_68 H locs ls hf I (lv_sub hl [1, 0] rfl)
              · have hf := if_t hf c_70
                refine lv_lload hx hb dX5_compare_241 (lv_at hl 0 rfl) ?_
                refine lv_goto (tgt := 248) hx hb dX5_compare_243 (by decide) ?_
                exact hJ_71 _ σ_68 H locs ls hf I (lv_sub hl [1, 0] rfl)
            · have hf := if_f hf c_65
              refine lv_iload hx hb dX5_compare_201 (lv_at hl 1 rfl) ?_
              refine lv_if_ne (tgt := 211) hx hb dX5_compare_203 (by decide) (fun c_78 => ?_) (fun c_78 => ?_)
              · have hf := if_f hf c_78
                refine lv_iload hx hb dX5_compare_211 (lv_at hl 3 rfl) ?_
                exact g_iret C I hr hlocks hf dX5_compare_213
              · have hf := if_t hf c_78
                refine lv_iload hx hb dX5_compare_206 (lv_at hl 2 rfl) ?_
                refine lv_goto (tgt := 213) hx hb dX5_compare_208 (by decide) ?_
                exact g_iret C I hr hlocks hf dX5_compare_213
        · have hf := if_f hf c_35
          refine lv_iconst (v := (0 : Int32)) hx hb dX5_compare_95 (by decide) ?_
          exact g_iret C I hr hlocks hf dX5_compare_96
      refine lv_if_ne (tgt := 88) hx hb dX5_compare_81 (by decide) (fun c_28 => ?_) (fun c_28 => ?_)
      · have hf := if_f hf c_28
        refine lv_iconst (v := (0 : Int32)) hx hb dX5_compare_88 (by decide) ?_
        exact hJ_29 _ σ_27 H locs ls hf I (lv_sub hl [1, 2, 3, 4, 5, 6, 7] rfl)
      · have hf := if_t hf c_28
        refine lv_iconst (v := (1 : Int32)) hx hb dX5_compare_84 (by decide) ?_
        refine lv_goto (tgt := 89) hx hb dX5_compare_85 (by decide) ?_
        exact hJ_29 _ σ_27 H locs ls hf I (lv_sub hl [1, 2, 3, 4, 5, 6, 7] rfl)
    refine lv_if_eq (tgt := 65) hx hb dX5_compare_43 (by decide) (fun c_19 => ?_) (fun c_19 => ?_)
    · have hf := if_t hf c_19
      refine lv_iconst (v := (1 : Int32)) hx hb dX5_compare_65 (by decide) ?_
      refine lv_goto (tgt := 70) hx hb dX5_compare_66 (by decide) ?_
      exact hJ_20 _ σ_17 H locs ls hf I (lv_sub hl [1, 2, 3, 4, 5, 6, 7, 0] rfl)
    · have hf := if_f hf c_19
      refine lv_iload hx hb dX5_compare_46 (lv_at hl 5 rfl) ?_
      obtain ⟨r_21, σ_22, hg_23, hf⟩ := bd_some hf
      refine g_csi (av := [.int a4]) (rest := []) C I AA.new (c_X5_isDay l E o a4 σ_17 hg_23) (cwS 1 C.1.2.2.2.2 gX5_compare_X5_isDay rfl rfl rfl (by decide +kernel) ⟨Nat.le_of_ble_eq_true rfl, Nat.le_of_ble_eq_true rfl⟩) rfl hl.1 rfl (Nat.le_of_ble_eq_true rfl) ⟨Nat.le_of_ble_eq_true rfl, Nat.le_of_ble_eq_true rfl⟩ dX5_compare_48 (fun H locs I => ?_)
      refine lv_if_eq (tgt := 65) hx hb dX5_compare_51 (by decide) (fun c_24 => ?_) (fun c_24 => ?_)
      · have hf := if_t hf c_24
        refine lv_iconst (v := (1 : Int32)) hx hb dX5_compare_65 (by decide) ?_
        refine lv_goto (tgt := 70) hx hb dX5_compare_66 (by decide) ?_
        exact hJ_20 _ σ_22 H locs ls hf I (lv_sub hl [1, 2, 3, 4, 5, 6, 7, 0] rfl)
      · have hf := if_f hf c_24
        refine lv_iload hx hb dX5_compare_54 (lv_at hl 5 rfl) ?_
        refine lv_iload hx hb dX5_compare_56 (lv_at hl 6 rfl) ?_
        refine lv_iadd hx hb dX5_compare_58 ?_
        refine lv_sipush (v := (1000 : Int32)) hx hb dX5_compare_59 (by decide) ?_
        refine lv_icmp_le (tgt := 69) hx hb dX5_compare_62 (by decide) (fun c_25 => ?_) (fun c_25 => ?_)
        · have hf := if_t hf c_25
          refine lv_iconst (v := (0 : Int32)) hx hb dX5_compare_69 (by decide) ?_
          exact hJ_20 _ σ_22 H locs ls hf I (lv_sub hl [1, 2, 3, 4, 5, 6, 7, 0] rfl)
        · have hf := if_f hf c_25
          refine lv_iconst (v := (1 : Int32)) hx hb dX5_compare_65 (by decide) ?_
          refine lv_goto (tgt := 70) hx hb dX5_compare_66 (by decide) ?_
          exact hJ_20 _ σ_22 H locs ls hf I (lv_sub hl [1, 2, 3, 4, 5, 6, 7, 0] rfl)
  refine lv_if_eq (tgt := 28) hx hb dX5_compare_6 (by decide) (fun c_4 => ?_) (fun c_4 => ?_)
  · have hf := if_t hf c_4
    refine lv_iconst (v := (1 : Int32)) hx hb dX5_compare_28 (by decide) ?_
    refine lv_goto (tgt := 33) hx hb dX5_compare_29 (by decide) ?_
    exact hJ_5 _ σ_2 H locs ls hf I (lv_sub hl [0, 1, 2, 3, 4, 5, 6] rfl)
  · have hf := if_f hf c_4
    refine lv_iload_n hx hb dX5_compare_9 rfl (lv_at hl 2 rfl) ?_
    refine lv_iconst (v := (0 : Int32)) hx hb dX5_compare_10 (by decide) ?_
    refine lv_iconst (v := (3 : Int32)) hx hb dX5_compare_11 (by decide) ?_
    obtain ⟨r_6, σ_7, hg_8, hf⟩ := bd_some hf
    refine g_csi (av := [.int a2, .int (0 : Int32), .int (3 : Int32)]) (rest := []) C I AA.new (c_X5_in l E o a2 (0 : Int32) (3 : Int32) σ_2 hg_8) (cwS 3 C.1.2.2.2.2 gX5_compare_X5_in rfl rfl rfl (by decide +kernel) ⟨Nat.le_of_ble_eq_true rfl, Nat.le_of_ble_eq_true rfl⟩) rfl hl.1 rfl (Nat.le_of_ble_eq_true rfl) ⟨Nat.le_of_ble_eq_true rfl, Nat.le_of_ble_eq_true rfl⟩ dX5_compare_12 (fun H locs I => ?_)
    refine lv_if_eq (tgt := 28) hx hb dX5_compare_15 (by decide) (fun c_9 => ?_) (fun c_9 => ?_)
    · have hf := if_t hf c_9
      refine lv_iconst (v := (1 : Int32)) hx hb dX5_compare_28 (by decide) ?_
      refine lv_goto (tgt := 33) hx hb dX5_compare_29 (by decide) ?_
      exact hJ_5 _ σ_7 H locs ls hf I (lv_sub hl [0, 1, 2, 3, 4, 5, 6] rfl)
    · have hf := if_f hf c_9
      refine lv_iload hx hb dX5_compare_18 (lv_at hl 6 rfl) ?_
      refine lv_iconst (v := (0 : Int32)) hx hb dX5_compare_20 (by decide) ?_
      refine lv_iconst (v := (3 : Int32)) hx hb dX5_compare_21 (by decide) ?_
      obtain ⟨r_10, σ_11, hg_12, hf⟩ := bd_some hf
      refine g_csi (av := [.int a6, .int (0 : Int32), .int (3 : Int32)]) (rest := []) C I AA.new (c_X5_in l E o a6 (0 : Int32) (3 : Int32) σ_7 hg_12) (cwS 3 C.1.2.2.2.2 gX5_compare_X5_in rfl rfl rfl (by decide +kernel) ⟨Nat.le_of_ble_eq_true rfl, Nat.le_of_ble_eq_true rfl⟩) rfl hl.1 rfl (Nat.le_of_ble_eq_true rfl) ⟨Nat.le_of_ble_eq_true rfl, Nat.le_of_ble_eq_true rfl⟩ dX5_compare_22 (fun H locs I => ?_)
      refine lv_if_ne (tgt := 32) hx hb dX5_compare_25 (by decide) (fun c_13 => ?_) (fun c_13 => ?_)
      · have hf := if_f hf c_13
        refine lv_iconst (v := (0 : Int32)) hx hb dX5_compare_32 (by decide) ?_
        exact hJ_5 _ σ_11 H locs ls hf I (lv_sub hl [0, 1, 2, 3, 4, 5, 6] rfl)
      · have hf := if_t hf c_13
        refine lv_iconst (v := (1 : Int32)) hx hb dX5_compare_28 (by decide) ?_
        refine lv_goto (tgt := 33) hx hb dX5_compare_29 (by decide) ?_
        exact hJ_5 _ σ_11 H locs ls hf I (lv_sub hl [0, 1, 2, 3, 4, 5, 6] rfl)
