/-! contracts, by wip/gen/walk.py -/
abbrev rm_X5_thrown : Room := { frames := 0, cells := 0, slots := 0, locals := 0 }
abbrev WW_X5_thrown (p : Program) (l : Launch) (e : Env) (s : State) (m : MethodId) (args : Array Value) (below : List Frame) (meth : Method) (c : Code) (E : En) (o : Int64) (res : Int32 × St) (H : Heap) (locs : List Loc) (cells slots : Nat) (g : JFrame) : Prop := W p l e (headSpec wsX5_thrown rm_X5_thrown).room s m args below meth c H locs cells slots (MQ below (Qi E s.heap.size o res.1 res.2) args s 0 0 (AA E s.heap.size)) g
theorem k_X5_thrown_65 : Cond.fieldLink RX5 65 "DaySimulateModel" "thrown" "I" ∈ wsX5_thrown := by decide +kernel
theorem in_X5_thrown_X5 : ∀ w ∈ wsX50, w ∈ wsX5_thrown := by decide +kernel
set_option maxHeartbeats 4000000 in
set_option maxRecDepth 100000 in
theorem c_X5_thrown (l : Launch) (E : En) (o : Int64)  (σ : St) {res : Int32 × St} (hf : f_X5_thrown σ = some res) : CI l yX5_thrown wsX5_thrown rm_X5_thrown E [.ref (ad E 39)] o σ res.1 res.2 := by
  intro sz
  refine Met.ofW (cc := cX5_thrown) (maxL := 1) (ret := (some .int)) (by decide) rfl ?_
  intro p e s m args below meth c s₁ B hml hv
  obtain ⟨rfl, hv⟩ := hv
  obtain ⟨rfl, hK, I⟩ := hv.start
  have C : Cx p c cX5_thrown 1 s m _ wsX5_thrown RX5 E := ⟨⟨B.exec, B.bytes, hml, findClass_of_methodNamed B.named, atoms_spec (ws := wsX5_thrown) B.pre⟩, hK⟩
  have hx := C.1.1
  have hb := C.1.2.1
  have hr := B.returns
  have hlocks := B.notSynchronized
  clear hv
  have hl := lv_entry ([.ref (ad E 39)]) (n := 1) (Nat.le_of_ble_eq_true rfl)
  rw [lg_entry_eq]
  generalize (lg_sl ([.ref (ad E 39)]) ++ List.replicate (1 - (lg_sl ([.ref (ad E 39)])).length) Slot.unset).toArray = ls at hl ⊢
  have hl : lv_has ls 1 [(0, .ref (ad E 39))] := hl
  generalize ([.ref (ad E 39)] : List Value).toArray = args at C ⊢
  refine g_begin I (fun H locs I => ?_)
  rw [f_X5_thrown] at hf
  refine lv_aload_n hx hb dX5_thrown_0 rfl (lv_at hl 0 rfl) ?_
  refine g_get (k := 39) (v := .int (σ 39 0)) C I (by decide) (gk_39 E o _) rfl in_X5_thrown_X5 0 (by decide) (C.1.2.2.2.2 _ k_X5_thrown_65) rfl dX5_thrown_1 ?_
  exact g_iret C I hr hlocks hf dX5_thrown_4
abbrev rm_X5_throwing : Room := { frames := 0, cells := 0, slots := 0, locals := 0 }
abbrev WW_X5_throwing (p : Program) (l : Launch) (e : Env) (s : State) (m : MethodId) (args : Array Value) (below : List Frame) (meth : Method) (c : Code) (E : En) (o : Int64) (res : Int32 × St) (H : Heap) (locs : List Loc) (cells slots : Nat) (g : JFrame) : Prop := W p l e (headSpec wsX5_throwing rm_X5_throwing).room s m args below meth c H locs cells slots (MQ below (Qi E s.heap.size o res.1 res.2) args s 0 0 (AA E s.heap.size)) g
theorem k_X5_throwing_65 : Cond.fieldLink RX5 65 "DaySimulateModel" "thrown" "I" ∈ wsX5_throwing := by decide +kernel
theorem in_X5_throwing_X5 : ∀ w ∈ wsX50, w ∈ wsX5_throwing := by decide +kernel
set_option maxHeartbeats 4000000 in
set_option maxRecDepth 100000 in
theorem c_X5_throwing (l : Launch) (E : En) (o : Int64) (a1 : Int32) (a2 : Int32) (a3 : Int32) (σ : St) {res : Int32 × St} (hf : f_X5_throwing a1 a2 a3 σ = some res) : CI l yX5_throwing wsX5_throwing rm_X5_throwing E [.ref (ad E 39), .int a1, .int a2, .int a3] o σ res.1 res.2 := by
  intro sz
  refine Met.ofW (cc := cX5_throwing) (maxL := 4) (ret := (some .boolean)) (by decide) rfl ?_
  intro p e s m args below meth c s₁ B hml hv
  obtain ⟨rfl, hv⟩ := hv
  obtain ⟨rfl, hK, I⟩ := hv.start
  have C : Cx p c cX5_throwing 4 s m _ wsX5_throwing RX5 E := ⟨⟨B.exec, B.bytes, hml, findClass_of_methodNamed B.named, atoms_spec (ws := wsX5_throwing) B.pre⟩, hK⟩
  have hx := C.1.1
  have hb := C.1.2.1
  have hr := B.returns
  have hlocks := B.notSynchronized
  clear hv
  have hl := lv_entry ([.ref (ad E 39), .int a1, .int a2, .int a3]) (n := 4) (Nat.le_of_ble_eq_true rfl)
  rw [lg_entry_eq]
  generalize (lg_sl ([.ref (ad E 39), .int a1, .int a2, .int a3]) ++ List.replicate (4 - (lg_sl ([.ref (ad E 39), .int a1, .int a2, .int a3])).length) Slot.unset).toArray = ls at hl ⊢
  have hl : lv_has ls 4 [(0, .ref (ad E 39)), (1, .int a1), (2, .int a2), (3, .int a3)] := hl
  generalize ([.ref (ad E 39), .int a1, .int a2, .int a3] : List Value).toArray = args at C ⊢
  refine g_begin I (fun H locs I => ?_)
  rw [f_X5_throwing] at hf
  refine lv_aload_n hx hb dX5_throwing_0 rfl (lv_at hl 0 rfl) ?_
  refine lv_iload_n hx hb dX5_throwing_1 rfl (lv_at hl 1 rfl) ?_
  refine lv_if_eq (tgt := 9) hx hb dX5_throwing_2 (by decide) (fun c_1 => ?_) (fun c_1 => ?_)
  · have hf := if_t hf c_1
    refine lv_iload_n hx hb dX5_throwing_9 rfl (lv_at hl 2 rfl) ?_
    refine lv_if_eq (tgt := 17) hx hb dX5_throwing_10 (by decide) (fun c_2 => ?_) (fun c_2 => ?_)
    · have hf := if_t hf c_2
      refine lv_iload_n hx hb dX5_throwing_17 rfl (lv_at hl 3 rfl) ?_
      refine lv_if_eq (tgt := 25) hx hb dX5_throwing_18 (by decide) (fun c_3 => ?_) (fun c_3 => ?_)
      · have hf := if_t hf c_3
        refine lv_iconst (v := (0 : Int32)) hx hb dX5_throwing_25 (by decide) ?_
        refine g_put (k := 39) (v := (0 : Int32)) C I (by decide) (gk_39 E o) rfl in_X5_throwing_X5 tyX5 tyX5_ok nmX5 0 (by decide) (C.1.2.2.2.2 _ k_X5_throwing_65) rfl (by decide +kernel) (Nat.le_of_ble_eq_true rfl) rfl dX5_throwing_26 (fun H locs σ_4 eσ_4 I => ?_)
        have hf := lt_at hf eσ_4
        refine lv_aload_n hx hb dX5_throwing_29 rfl (lv_at hl 0 rfl) ?_
        refine g_get (k := 39) (v := .int (σ_4 39 0)) C I (by decide) (gk_39 E o _) rfl in_X5_throwing_X5 0 (by decide) (C.1.2.2.2.2 _ k_X5_throwing_65) rfl dX5_throwing_30 ?_
        refine lv_if_le (tgt := 40) hx hb dX5_throwing_33 (by decide) (fun c_5 => ?_) (fun c_5 => ?_)
        · have hf := if_t hf c_5
          refine lv_iconst (v := (0 : Int32)) hx hb dX5_throwing_40 (by decide) ?_
          exact g_zret C I hr hlocks rfl hf dX5_throwing_41
        · have hf := if_f hf c_5
          refine lv_iconst (v := (1 : Int32)) hx hb dX5_throwing_36 (by decide) ?_
          refine lv_goto (tgt := 41) hx hb dX5_throwing_37 (by decide) ?_
          exact g_zret C I hr hlocks rfl hf dX5_throwing_41
      · have hf := if_f hf c_3
        refine lv_iconst (v := (3 : Int32)) hx hb dX5_throwing_21 (by decide) ?_
        refine lv_goto (tgt := 26) hx hb dX5_throwing_22 (by decide) ?_
        refine g_put (k := 39) (v := (3 : Int32)) C I (by decide) (gk_39 E o) rfl in_X5_throwing_X5 tyX5 tyX5_ok nmX5 0 (by decide) (C.1.2.2.2.2 _ k_X5_throwing_65) rfl (by decide +kernel) (Nat.le_of_ble_eq_true rfl) rfl dX5_throwing_26 (fun H locs σ_6 eσ_6 I => ?_)
        have hf := lt_at hf eσ_6
        refine lv_aload_n hx hb dX5_throwing_29 rfl (lv_at hl 0 rfl) ?_
        refine g_get (k := 39) (v := .int (σ_6 39 0)) C I (by decide) (gk_39 E o _) rfl in_X5_throwing_X5 0 (by decide) (C.1.2.2.2.2 _ k_X5_throwing_65) rfl dX5_throwing_30 ?_
        refine lv_if_le (tgt := 40) hx hb dX5_throwing_33 (by decide) (fun c_7 => ?_) (fun c_7 => ?_)
        · have hf := if_t hf c_7
          refine lv_iconst (v := (0 : Int32)) hx hb dX5_throwing_40 (by decide) ?_
          exact g_zret C I hr hlocks rfl hf dX5_throwing_41
        · have hf := if_f hf c_7
          refine lv_iconst (v := (1 : Int32)) hx hb dX5_throwing_36 (by decide) ?_
          refine lv_goto (tgt := 41) hx hb dX5_throwing_37 (by decide) ?_
          exact g_zret C I hr hlocks rfl hf dX5_throwing_41
    · have hf := if_f hf c_2
      refine lv_iconst (v := (2 : Int32)) hx hb dX5_throwing_13 (by decide) ?_
      refine lv_goto (tgt := 26) hx hb dX5_throwing_14 (by decide) ?_
      refine g_put (k := 39) (v := (2 : Int32)) C I (by decide) (gk_39 E o) rfl in_X5_throwing_X5 tyX5 tyX5_ok nmX5 0 (by decide) (C.1.2.2.2.2 _ k_X5_throwing_65) rfl (by decide +kernel) (Nat.le_of_ble_eq_true rfl) rfl dX5_throwing_26 (fun H locs σ_8 eσ_8 I => ?_)
      have hf := lt_at hf eσ_8
      refine lv_aload_n hx hb dX5_throwing_29 rfl (lv_at hl 0 rfl) ?_
      refine g_get (k := 39) (v := .int (σ_8 39 0)) C I (by decide) (gk_39 E o _) rfl in_X5_throwing_X5 0 (by decide) (C.1.2.2.2.2 _ k_X5_throwing_65) rfl dX5_throwing_30 ?_
      refine lv_if_le (tgt := 40) hx hb dX5_throwing_33 (by decide) (fun c_9 => ?_) (fun c_9 => ?_)
      · have hf := if_t hf c_9
        refine lv_iconst (v := (0 : Int32)) hx hb dX5_throwing_40 (by decide) ?_
        exact g_zret C I hr hlocks rfl hf dX5_throwing_41
      · have hf := if_f hf c_9
        refine lv_iconst (v := (1 : Int32)) hx hb dX5_throwing_36 (by decide) ?_
        refine lv_goto (tgt := 41) hx hb dX5_throwing_37 (by decide) ?_
        exact g_zret C I hr hlocks rfl hf dX5_throwing_41
  · have hf := if_f hf c_1
    refine lv_iconst (v := (1 : Int32)) hx hb dX5_throwing_5 (by decide) ?_
    refine lv_goto (tgt := 26) hx hb dX5_throwing_6 (by decide) ?_
    refine g_put (k := 39) (v := (1 : Int32)) C I (by decide) (gk_39 E o) rfl in_X5_throwing_X5 tyX5 tyX5_ok nmX5 0 (by decide) (C.1.2.2.2.2 _ k_X5_throwing_65) rfl (by decide +kernel) (Nat.le_of_ble_eq_true rfl) rfl dX5_throwing_26 (fun H locs σ_10 eσ_10 I => ?_)
    have hf := lt_at hf eσ_10
    refine lv_aload_n hx hb dX5_throwing_29 rfl (lv_at hl 0 rfl) ?_
    refine g_get (k := 39) (v := .int (σ_10 39 0)) C I (by decide) (gk_39 E o _) rfl in_X5_throwing_X5 0 (by decide) (C.1.2.2.2.2 _ k_X5_throwing_65) rfl dX5_throwing_30 ?_
    refine lv_if_le (tgt := 40) hx hb dX5_throwing_33 (by decide) (fun c_11 => ?_) (fun c_11 => ?_)
    · have hf := if_t hf c_11
      refine lv_iconst (v := (0 : Int32)) hx hb dX5_throwing_40 (by decide) ?_
      exact g_zret C I hr hlocks rfl hf dX5_throwing_41
    · have hf := if_f hf c_11
      refine lv_iconst (v := (1 : Int32)) hx hb dX5_throwing_36 (by decide) ?_
      refine lv_goto (tgt := 41) hx hb dX5_throwing_37 (by decide) ?_
      exact g_zret C I hr hlocks rfl hf dX5_throwing_41
abbrev rm_X5_in : Room := { frames := 0, cells := 0, slots := 0, locals := 0 }
abbrev WW_X5_in (p : Program) (l : Launch) (e : Env) (s : State) (m : MethodId) (args : Array Value) (below : List Frame) (meth : Method) (c : Code) (E : En) (o : Int64) (res : Int32 × St) (H : Heap) (locs : List Loc) (cells slots : Nat) (g : JFrame) : Prop := W p l e (headSpec wsX5_in rm_X5_in).room s m args below meth c H locs cells slots (MQ below (Qi E s.heap.size o res.1 res.2) args s 0 0 (AA E s.heap.size)) g
set_option maxHeartbeats 4000000 in
set_option maxRecDepth 100000 in
theorem c_X5_in (l : Launch) (E : En) (o : Int64) (a0 : Int32) (a1 : Int32) (a2 : Int32) (σ : St) {res : Int32 × St} (hf : f_X5_in a0 a1 a2 σ = some res) : CI l yX5_in wsX5_in rm_X5_in E [.int a0, .int a1, .int a2] o σ res.1 res.2 := by
  intro sz
  refine Met.ofW (cc := cX5_in) (maxL := 3) (ret := (some .boolean)) (by decide) rfl ?_
  intro p e s m args below meth c s₁ B hml hv
  obtain ⟨rfl, hv⟩ := hv
  obtain ⟨rfl, hK, I⟩ := hv.start
  have C : Cx p c cX5_in 3 s m _ wsX5_in RX5 E := ⟨⟨B.exec, B.bytes, hml, findClass_of_methodNamed B.named, atoms_spec (ws := wsX5_in) B.pre⟩, hK⟩
  have hx := C.1.1
  have hb := C.1.2.1
  have hr := B.returns
  have hlocks := B.notSynchronized
  clear hv
  have hl := lv_entry ([.int a0, .int a1, .int a2]) (n := 3) (Nat.le_of_ble_eq_true rfl)
  rw [lg_entry_eq]
  generalize (lg_sl ([.int a0, .int a1, .int a2]) ++ List.replicate (3 - (lg_sl ([.int a0, .int a1, .int a2])).length) Slot.unset).toArray = ls at hl ⊢
  have hl : lv_has ls 3 [(0, .int a0), (1, .int a1), (2, .int a2)] := hl
  generalize ([.int a0, .int a1, .int a2] : List Value).toArray = args at C ⊢
  refine g_begin I (fun H locs I => ?_)
  rw [f_X5_in] at hf
  refine lv_iload_n hx hb dX5_in_0 rfl (lv_at hl 0 rfl) ?_
  refine lv_iload_n hx hb dX5_in_1 rfl (lv_at hl 1 rfl) ?_
  refine lv_icmp_lt (tgt := 14) hx hb dX5_in_2 (by decide) (fun c_1 => ?_) (fun c_1 => ?_)
  · have hf := if_t hf c_1
    refine lv_iconst (v := (0 : Int32)) hx hb dX5_in_14 (by decide) ?_
    exact g_zret C I hr hlocks rfl hf dX5_in_15
  · have hf := if_f hf c_1
    refine lv_iload_n hx hb dX5_in_5 rfl (lv_at hl 0 rfl) ?_
    refine lv_iload_n hx hb dX5_in_6 rfl (lv_at hl 2 rfl) ?_
    refine lv_icmp_gt (tgt := 14) hx hb dX5_in_7 (by decide) (fun c_2 => ?_) (fun c_2 => ?_)
    · have hf := if_t hf c_2
      refine lv_iconst (v := (0 : Int32)) hx hb dX5_in_14 (by decide) ?_
      exact g_zret C I hr hlocks rfl hf dX5_in_15
    · have hf := if_f hf c_2
      refine lv_iconst (v := (1 : Int32)) hx hb dX5_in_10 (by decide) ?_
      refine lv_goto (tgt := 15) hx hb dX5_in_11 (by decide) ?_
      exact g_zret C I hr hlocks rfl hf dX5_in_15
abbrev rm_X5_isSpot : Room := { frames := 1, cells := 0, slots := 0, locals := 22 }
abbrev WW_X5_isSpot (p : Program) (l : Launch) (e : Env) (s : State) (m : MethodId) (args : Array Value) (below : List Frame) (meth : Method) (c : Code) (E : En) (o : Int64) (res : Int32 × St) (H : Heap) (locs : List Loc) (cells slots : Nat) (g : JFrame) : Prop := W p l e (headSpec wsX5_isSpot rm_X5_isSpot).room s m args below meth c H locs cells slots (MQ below (Qi E s.heap.size o res.1 res.2) args s 0 0 (AA E s.heap.size)) g
set_option maxHeartbeats 4000000 in
set_option maxRecDepth 100000 in
theorem c_X5_isSpot (l : Launch) (E : En) (o : Int64) (a0 : Int32) (a1 : Int32) (σ : St) {res : Int32 × St} (hf : f_X5_isSpot a0 a1 σ = some res) : CI l yX5_isSpot wsX5_isSpot rm_X5_isSpot E [.int a0, .int a1] o σ res.1 res.2 := by
  intro sz
  refine Met.ofW (cc := cX5_isSpot) (maxL := 2) (ret := (some .boolean)) (by decide) rfl ?_
  intro p e s m args below meth c s₁ B hml hv
  obtain ⟨rfl, hv⟩ := hv
  obtain ⟨rfl, hK, I⟩ := hv.start
  have C : Cx p c cX5_isSpot 2 s m _ wsX5_isSpot RX5 E := ⟨⟨B.exec, B.bytes, hml, findClass_of_methodNamed B.named, atoms_spec (ws := wsX5_isSpot) B.pre⟩, hK⟩
  have hx := C.1.1
  have hb := C.1.2.1
  have hr := B.returns
  have hlocks := B.notSynchronized
  clear hv
  have hl := lv_entry ([.int a0, .int a1]) (n := 2) (Nat.le_of_ble_eq_true rfl)
  rw [lg_entry_eq]
  generalize (lg_sl ([.int a0, .int a1]) ++ List.replicate (2 - (lg_sl ([.int a0, .int a1])).length) Slot.unset).toArray = ls at hl ⊢
  have hl : lv_has ls 2 [(0, .int a0), (1, .int a1)] := hl
  generalize ([.int a0, .int a1] : List Value).toArray = args at C ⊢
  refine g_begin I (fun H locs I => ?_)
  rw [f_X5_isSpot] at hf
  refine lv_iload_n hx hb dX5_isSpot_0 rfl (lv_at hl 0 rfl) ?_
  refine lv_iconst (v := (0 : Int32)) hx hb dX5_isSpot_1 (by decide) ?_
  refine lv_bipush (v := (99 : Int32)) hx hb dX5_isSpot_2 (by decide) ?_
  obtain ⟨r_1, σ_2, hg_3, hf⟩ := bd_some hf
  refine g_csi (av := [.int a0, .int (0 : Int32), .int (99 : Int32)]) (rest := []) C I AA.new (c_X5_in l E o a0 (0 : Int32) (99 : Int32) σ hg_3) (cwS 3 C.1.2.2.2.2 gX5_isSpot_X5_in rfl rfl rfl (by decide +kernel) ⟨Nat.le_of_ble_eq_true rfl, Nat.le_of_ble_eq_true rfl⟩) rfl hl.1 rfl (Nat.le_of_ble_eq_true rfl) ⟨Nat.le_of_ble_eq_true rfl, Nat.le_of_ble_eq_true rfl⟩ dX5_isSpot_4 (fun H locs I => ?_)
  refine lv_if_eq (tgt := 24) hx hb dX5_isSpot_7 (by decide) (fun c_4 => ?_) (fun c_4 => ?_)
  · have hf := if_t hf c_4
    refine lv_iconst (v := (0 : Int32)) hx hb dX5_isSpot_24 (by decide) ?_
    exact g_zret C I hr hlocks rfl hf dX5_isSpot_25
  · have hf := if_f hf c_4
    refine lv_iload_n hx hb dX5_isSpot_10 rfl (lv_at hl 1 rfl) ?_
    refine lv_iconst (v := (0 : Int32)) hx hb dX5_isSpot_11 (by decide) ?_
    refine lv_bipush (v := (99 : Int32)) hx hb dX5_isSpot_12 (by decide) ?_
    obtain ⟨r_5, σ_6, hg_7, hf⟩ := bd_some hf
    refine g_csi (av := [.int a1, .int (0 : Int32), .int (99 : Int32)]) (rest := []) C I AA.new (c_X5_in l E o a1 (0 : Int32) (99 : Int32) σ_2 hg_7) (cwS 3 C.1.2.2.2.2 gX5_isSpot_X5_in rfl rfl rfl (by decide +kernel) ⟨Nat.le_of_ble_eq_true rfl, Nat.le_of_ble_eq_true rfl⟩) rfl hl.1 rfl (Nat.le_of_ble_eq_true rfl) ⟨Nat.le_of_ble_eq_true rfl, Nat.le_of_ble_eq_true rfl⟩ dX5_isSpot_14 (fun H locs I => ?_)
    refine lv_if_eq (tgt := 24) hx hb dX5_isSpot_17 (by decide) (fun c_8 => ?_) (fun c_8 => ?_)
    · have hf := if_t hf c_8
      refine lv_iconst (v := (0 : Int32)) hx hb dX5_isSpot_24 (by decide) ?_
      exact g_zret C I hr hlocks rfl hf dX5_isSpot_25
    · have hf := if_f hf c_8
      refine lv_iconst (v := (1 : Int32)) hx hb dX5_isSpot_20 (by decide) ?_
      refine lv_goto (tgt := 25) hx hb dX5_isSpot_21 (by decide) ?_
      exact g_zret C I hr hlocks rfl hf dX5_isSpot_25
abbrev rm_X5_at : Room := { frames := 0, cells := 0, slots := 0, locals := 0 }
abbrev WW_X5_at (p : Program) (l : Launch) (e : Env) (s : State) (m : MethodId) (args : Array Value) (below : List Frame) (meth : Method) (c : Code) (E : En) (o : Int64) (res : Int32 × St) (H : Heap) (locs : List Loc) (cells slots : Nat) (g : JFrame) : Prop := W p l e (headSpec wsX5_at rm_X5_at).room s m args below meth c H locs cells slots (MQ below (Qi E s.heap.size o res.1 res.2) args s 0 0 (AA E s.heap.size)) g
theorem k_X5_at_32 : Cond.fieldLink RX5 32 "DaySimulateModel" "stands" "[I" ∈ wsX5_at := by decide +kernel
theorem k_X5_at_86 : Cond.fieldLink RX5 86 "DaySimulateModel" "units" "I" ∈ wsX5_at := by decide +kernel
theorem in_X5_at_X5 : ∀ w ∈ wsX50, w ∈ wsX5_at := by decide +kernel
set_option maxHeartbeats 4000000 in
set_option maxRecDepth 100000 in
theorem lp_X5_at_6 {l : Launch} {p : Program} {e : Env} {s : State} {m : MethodId} {args : Array Value} {below : List Frame} {meth : Method} {c : Code} {E : En} {o : Int64} {res : Int32 × St} (C : Cx p c cX5_at 6 s m args wsX5_at RX5 E) (hr : meth.sig.returnType = (some .int)) (hlocks : meth.locks = false) (b1 : Int32) (b2 : Int32) (b3 : Int32) (K53 : Int32 → St → Option (Int32 × St)) (hK53 : ∀ (u4 : Int32) (σ : St) (H : Heap) (locs : List Loc) (ls : Array Slot), K53 u4 σ = some res → Iv E (AA E s.heap.size) s.heap o σ H locs → lv_has ls 6 [(4, .int u4)] → WW_X5_at p l e s m args below meth c E o res H locs 0 0 (F0 m 53 ls [])) :
    ∀ (n : Nat) (v4 : Int32) (v5 : Int32) (σ : St) (H : Heap) (locs : List Loc) (ls : Array Slot), f_X5_at_L6 b1 b2 b3 K53 n v4 v5 σ = some res → Iv E (AA E s.heap.size) s.heap o σ H locs → lv_has ls 6 [(0, .ref (ad E 39)), (1, .int b1), (2, .int b2), (3, .int b3), (4, .int v4), (5, .int v5)] → WW_X5_at p l e s m args below meth c E o res H locs 0 0 (F0 m 6 ls []) := by
  have hx := C.1.1
  have hb := C.1.2.1
  intro n
  induction n with
  | zero => intro v4 v5 σ H locs ls hf _ _; cases (show (none : Option (Int32 × St)) = some res from hf)
  | succ n ih =>
    intro v4 v5 σ H locs ls hf I hl
    rw [f_X5_at_L6] at hf
    refine lv_iload hx hb dX5_at_6 (lv_at hl 5 rfl) ?_
    refine lv_aload_n hx hb dX5_at_8 rfl (lv_at hl 0 rfl) ?_
    refine g_get (k := 39) (v := .int (σ 39 10)) C I (by decide) (gk_39 E o _) rfl in_X5_at_X5 10 (by decide) (C.1.2.2.2.2 _ k_X5_at_86) rfl dX5_at_9 ?_
    refine lv_icmp_ge (tgt := 53) hx hb dX5_at_12 (by decide) (fun c_1 => ?_) (fun c_1 => ?_)
    · have hf := if_t hf c_1
      exact hK53 v4 σ H locs ls hf I (lv_sub hl [4] rfl)
    · have hf := if_f hf c_1
      refine lv_iload hx hb dX5_at_15 (lv_at hl 4 rfl) ?_
      refine lv_iload hx hb dX5_at_17 (lv_at hl 5 rfl) ?_
      refine lv_iload_n hx hb dX5_at_19 rfl (lv_at hl 3 rfl) ?_
      refine lv_icmp_eq (tgt := 43) hx hb dX5_at_20 (by decide) (fun c_2 => ?_) (fun c_2 => ?_)
      · have hf := if_t hf c_2
        refine lv_iconst (v := (0 : Int32)) hx hb dX5_at_43 (by decide) ?_
        refine lv_iadd hx hb dX5_at_44 ?_
        refine lv_topi (fun x_3 ex_3 => ?_)
        have hf := lt_at hf ex_3
        refine lv_istore (lv' := [(4, .int x_3), (0, .ref (ad E 39)), (1, .int b1), (2, .int b2), (3, .int b3), (5, .int v5)]) hx hb dX5_at_45 hl (by decide) rfl (fun ls hl => ?_)
        obtain ⟨x_4, ex_4⟩ : ∃ y : Int32, y = (v5 + (1 : Int32)) := ⟨_, rfl⟩
        have hf := lt_at hf ex_4
        refine lv_iinc (v := x_4) (lv' := [(5, .int x_4), (4, .int x_3), (0, .ref (ad E 39)), (1, .int b1), (2, .int b2), (3, .int b3)]) hx hb dX5_at_47 hl (k := 5) rfl (by rw [ex_4]; rfl) (by decide) rfl (fun ls hl => ?_)
        refine lv_goto (tgt := 6) hx hb dX5_at_50 (by decide) ?_
        exact ih x_3 x_4 σ H locs ls hf I (lv_sub hl [2, 3, 4, 5, 1, 0] rfl)
      · have hf := if_f hf c_2
        refine lv_aload_n hx hb dX5_at_23 rfl (lv_at hl 0 rfl) ?_
        refine g_get (k := 39) (v := .ref (ad E 45)) C I (by decide) (gk_39 E o _) rfl in_X5_at_X5 11 (by decide) (C.1.2.2.2.2 _ k_X5_at_32) rfl dX5_at_24 ?_
        refine lv_bipush (v := (12 : Int32)) hx hb dX5_at_27 (by decide) ?_
        refine lv_iload_n hx hb dX5_at_29 rfl (lv_at hl 1 rfl) ?_
        refine lv_imul hx hb dX5_at_30 ?_
        refine lv_iload hx hb dX5_at_31 (lv_at hl 5 rfl) ?_
        refine lv_iadd hx hb dX5_at_33 ?_
        obtain ⟨h_5, hf⟩ := ck_some hf
        refine g_iald (k := 45) C I (by decide) (gk_45 E o) (ixb_in h_5) dX5_at_34 ?_
        refine lv_iload_n hx hb dX5_at_35 rfl (lv_at hl 2 rfl) ?_
        refine lv_icmp_ne (tgt := 43) hx hb dX5_at_36 (by decide) (fun c_6 => ?_) (fun c_6 => ?_)
        · have hf := if_f hf c_6
          refine lv_iconst (v := (0 : Int32)) hx hb dX5_at_43 (by decide) ?_
          refine lv_iadd hx hb dX5_at_44 ?_
          refine lv_topi (fun x_7 ex_7 => ?_)
          have hf := lt_at hf ex_7
          refine lv_istore (lv' := [(4, .int x_7), (0, .ref (ad E 39)), (1, .int b1), (2, .int b2), (3, .int b3), (5, .int v5)]) hx hb dX5_at_45 hl (by decide) rfl (fun ls hl => ?_)
          obtain ⟨x_8, ex_8⟩ : ∃ y : Int32, y = (v5 + (1 : Int32)) := ⟨_, rfl⟩
          have hf := lt_at hf ex_8
          refine lv_iinc (v := x_8) (lv' := [(5, .int x_8), (4, .int x_7), (0, .ref (ad E 39)), (1, .int b1), (2, .int b2), (3, .int b3)]) hx hb dX5_at_47 hl (k := 5) rfl (by rw [ex_8]; rfl) (by decide) rfl (fun ls hl => ?_)
          refine lv_goto (tgt := 6) hx hb dX5_at_50 (by decide) ?_
          exact ih x_7 x_8 σ H locs ls hf I (lv_sub hl [2, 3, 4, 5, 1, 0] rfl)
        · have hf := if_t hf c_6
          refine lv_iconst (v := (1 : Int32)) hx hb dX5_at_39 (by decide) ?_
          refine lv_goto (tgt := 44) hx hb dX5_at_40 (by decide) ?_
          refine lv_iadd hx hb dX5_at_44 ?_
          refine lv_topi (fun x_9 ex_9 => ?_)
          have hf := lt_at hf ex_9
          refine lv_istore (lv' := [(4, .int x_9), (0, .ref (ad E 39)), (1, .int b1), (2, .int b2), (3, .int b3), (5, .int v5)]) hx hb dX5_at_45 hl (by decide) rfl (fun ls hl => ?_)
          obtain ⟨x_10, ex_10⟩ : ∃ y : Int32, y = (v5 + (1 : Int32)) := ⟨_, rfl⟩
          have hf := lt_at hf ex_10
          refine lv_iinc (v := x_10) (lv' := [(5, .int x_10), (4, .int x_9), (0, .ref (ad E 39)), (1, .int b1), (2, .int b2), (3, .int b3)]) hx hb dX5_at_47 hl (k := 5) rfl (by rw [ex_10]; rfl) (by decide) rfl (fun ls hl => ?_)
          refine lv_goto (tgt := 6) hx hb dX5_at_50 (by decide) ?_
          exact ih x_9 x_10 σ H locs ls hf I (lv_sub hl [2, 3, 4, 5, 1, 0] rfl)
set_option maxHeartbeats 4000000 in
set_option maxRecDepth 100000 in
theorem c_X5_at (l : Launch) (E : En) (o : Int64) (a1 : Int32) (a2 : Int32) (a3 : Int32) (σ : St) {res : Int32 × St} (hf : f_X5_at a1 a2 a3 σ = some res) : CI l yX5_at wsX5_at rm_X5_at E [.ref (ad E 39), .int a1, .int a2, .int a3] o σ res.1 res.2 := by
  intro sz
  refine Met.ofW (cc := cX5_at) (maxL := 6) (ret := (some .int)) (by decide) rfl ?_
  intro p e s m args below meth c s₁ B hml hv
  obtain ⟨rfl, hv⟩ := hv
  obtain ⟨rfl, hK, I⟩ := hv.start
  have C : Cx p c cX5_at 6 s m _ wsX5_at RX5 E := ⟨⟨B.exec, B.bytes, hml, findClass_of_methodNamed B.named, atoms_spec (ws := wsX5_at) B.pre⟩, hK⟩
  have hx := C.1.1
  have hb := C.1.2.1
  have hr := B.returns
  have hlocks := B.notSynchronized
  clear hv
  have hl := lv_entry ([.ref (ad E 39), .int a1, .int a2, .int a3]) (n := 6) (Nat.le_of_ble_eq_true rfl)
  rw [lg_entry_eq]
  generalize (lg_sl ([.ref (ad E 39), .int a1, .int a2, .int a3]) ++ List.replicate (6 - (lg_sl ([.ref (ad E 39), .int a1, .int a2, .int a3])).length) Slot.unset).toArray = ls at hl ⊢
  have hl : lv_has ls 6 [(0, .ref (ad E 39)), (1, .int a1), (2, .int a2), (3, .int a3)] := hl
  generalize ([.ref (ad E 39), .int a1, .int a2, .int a3] : List Value).toArray = args at C ⊢
  refine g_begin I (fun H locs I => ?_)
  rw [f_X5_at] at hf
  refine lv_iconst (v := (0 : Int32)) hx hb dX5_at_0 (by decide) ?_
  refine lv_istore (lv' := [(4, .int (0 : Int32)), (0, .ref (ad E 39)), (1, .int a1), (2, .int a2), (3, .int a3)]) hx hb dX5_at_1 hl (by decide) rfl (fun ls hl => ?_)
  refine lv_iconst (v := (0 : Int32)) hx hb dX5_at_3 (by decide) ?_
  refine lv_istore (lv' := [(5, .int (0 : Int32)), (4, .int (0 : Int32)), (0, .ref (ad E 39)), (1, .int a1), (2, .int a2), (3, .int a3)]) hx hb dX5_at_4 hl (by decide) rfl (fun ls hl => ?_)
  refine lp_X5_at_6 C hr hlocks a1 a2 a3 _ ?_ _ (0 : Int32) (0 : Int32) σ H locs ls hf I (lv_sub hl [2, 3, 4, 5, 1, 0] rfl)
  · intro y_11 σ_12 H locs ls hf I hl
    refine lv_iload hx hb dX5_at_53 (lv_at hl 0 rfl) ?_
    exact g_iret C I hr hlocks hf dX5_at_55
abbrev rm_X5_isFull : Room := { frames := 1, cells := 0, slots := 0, locals := 25 }
abbrev WW_X5_isFull (p : Program) (l : Launch) (e : Env) (s : State) (m : MethodId) (args : Array Value) (below : List Frame) (meth : Method) (c : Code) (E : En) (o : Int64) (res : Int32 × St) (H : Heap) (locs : List Loc) (cells slots : Nat) (g : JFrame) : Prop := W p l e (headSpec wsX5_isFull rm_X5_isFull).room s m args below meth c H locs cells slots (MQ below (Qi E s.heap.size o res.1 res.2) args s 0 0 (AA E s.heap.size)) g
set_option maxHeartbeats 4000000 in
set_option maxRecDepth 100000 in
theorem lp_X5_isFull_4 {l : Launch} {p : Program} {e : Env} {s : State} {m : MethodId} {args : Array Value} {below : List Frame} {meth : Method} {c : Code} {E : En} {o : Int64} {res : Int32 × St} (C : Cx p c cX5_isFull 4 s m args wsX5_isFull RX5 E) (hr : meth.sig.returnType = (some .boolean)) (hlocks : meth.locks = false) (b1 : Int32) (K36 : Int32 → St → Option (Int32 × St)) (hK36 : ∀ (u2 : Int32) (σ : St) (H : Heap) (locs : List Loc) (ls : Array Slot), K36 u2 σ = some res → Iv E (AA E s.heap.size) s.heap o σ H locs → lv_has ls 4 [(2, .int u2)] → WW_X5_isFull p l e s m args below meth c E o res H locs 0 0 (F0 m 36 ls [])) :
    ∀ (n : Nat) (v2 : Int32) (v3 : Int32) (σ : St) (H : Heap) (locs : List Loc) (ls : Array Slot), f_X5_isFull_L4 b1 K36 n v2 v3 σ = some res → Iv E (AA E s.heap.size) s.heap o σ H locs → lv_has ls 4 [(0, .ref (ad E 39)), (1, .int b1), (2, .int v2), (3, .int v3)] → WW_X5_isFull p l e s m args below meth c E o res H locs 0 0 (F0 m 4 ls []) := by
  have hx := C.1.1
  have hb := C.1.2.1
  intro n
  induction n with
  | zero => intro v2 v3 σ H locs ls hf _ _; cases (show (none : Option (Int32 × St)) = some res from hf)
  | succ n ih =>
    intro v2 v3 σ H locs ls hf I hl
    rw [f_X5_isFull_L4] at hf
    refine lv_iload_n hx hb dX5_isFull_4 rfl (lv_at hl 3 rfl) ?_
    refine lv_iconst (v := (4 : Int32)) hx hb dX5_isFull_5 (by decide) ?_
    refine lv_icmp_ge (tgt := 36) hx hb dX5_isFull_6 (by decide) (fun c_1 => ?_) (fun c_1 => ?_)
    · have hf := if_t hf c_1
      exact hK36 v2 σ H locs ls hf I (lv_sub hl [2] rfl)
    · have hf := if_f hf c_1
      refine lv_iload_n hx hb dX5_isFull_9 rfl (lv_at hl 2 rfl) ?_
      refine lv_if_ne (tgt := 24) hx hb dX5_isFull_10 (by decide) (fun c_2 => ?_) (fun c_2 => ?_)
      · have hf := if_f hf c_2
        refine lv_iconst (v := (1 : Int32)) hx hb dX5_isFull_24 (by decide) ?_
        refine lv_goto (tgt := 29) hx hb dX5_isFull_25 (by decide) ?_
        refine lv_istore_n (lv' := [(2, .int (1 : Int32)), (0, .ref (ad E 39)), (1, .int b1), (3, .int v3)]) hx hb dX5_isFull_29 rfl hl (by decide) rfl (fun ls hl => ?_)
        obtain ⟨x_3, ex_3⟩ : ∃ y : Int32, y = (v3 + (1 : Int32)) := ⟨_, rfl⟩
        have hf := lt_at hf ex_3
        refine lv_iinc (v := x_3) (lv' := [(3, .int x_3), (2, .int (1 : Int32)), (0, .ref (ad E 39)), (1, .int b1)]) hx hb dX5_isFull_30 hl (k := 3) rfl (by rw [ex_3]; rfl) (by decide) rfl (fun ls hl => ?_)
        refine lv_goto (tgt := 4) hx hb dX5_isFull_33 (by decide) ?_
        exact ih (1 : Int32) x_3 σ H locs ls hf I (lv_sub hl [2, 3, 1, 0] rfl)
      · have hf := if_t hf c_2
        refine lv_aload_n hx hb dX5_isFull_13 rfl (lv_at hl 0 rfl) ?_
        refine lv_iload_n hx hb dX5_isFull_14 rfl (lv_at hl 3 rfl) ?_
        refine lv_iload_n hx hb dX5_isFull_15 rfl (lv_at hl 1 rfl) ?_
        refine lv_iconst (v := (-1 : Int32)) hx hb dX5_isFull_16 (by decide) ?_
        obtain ⟨r_4, σ_5, hg_6, hf⟩ := bd_some hf
        refine g_cvi (av := [.int v3, .int b1, .int (-1 : Int32)]) (rest := []) (k := 39) C I AA.new (c_X5_at l E o v3 b1 (-1 : Int32) σ hg_6) (cwV 3 C.1.2.2.2.2 gX5_isFull_X5_at rfl rfl rfl (by decide +kernel) ⟨Nat.le_of_ble_eq_true rfl, Nat.le_of_ble_eq_true rfl⟩) (by decide) (gk_39 E o _) rfl rfl rfl hl.1 rfl (Nat.le_of_ble_eq_true rfl) ⟨Nat.le_of_ble_eq_true rfl, Nat.le_of_ble_eq_true rfl⟩ dX5_isFull_17 (fun H locs I => ?_)
        refine lv_iconst (v := (4 : Int32)) hx hb dX5_isFull_20 (by decide) ?_
        refine lv_icmp_lt (tgt := 28) hx hb dX5_isFull_21 (by decide) (fun c_7 => ?_) (fun c_7 => ?_)
        · have hf := if_t hf c_7
          refine lv_iconst (v := (0 : Int32)) hx hb dX5_isFull_28 (by decide) ?_
          refine lv_istore_n (lv' := [(2, .int (0 : Int32)), (0, .ref (ad E 39)), (1, .int b1), (3, .int v3)]) hx hb dX5_isFull_29 rfl hl (by decide) rfl (fun ls hl => ?_)
          obtain ⟨x_8, ex_8⟩ : ∃ y : Int32, y = (v3 + (1 : Int32)) := ⟨_, rfl⟩
          have hf := lt_at hf ex_8
          refine lv_iinc (v := x_8) (lv' := [(3, .int x_8), (2, .int (0 : Int32)), (0, .ref (ad E 39)), (1, .int b1)]) hx hb dX5_isFull_30 hl (k := 3) rfl (by rw [ex_8]; rfl) (by decide) rfl (fun ls hl => ?_)
          refine lv_goto (tgt := 4) hx hb dX5_isFull_33 (by decide) ?_
          exact ih (0 : Int32) x_8 σ_5 H locs ls hf I (lv_sub hl [2, 3, 1, 0] rfl)
        · have hf := if_f hf c_7
          refine lv_iconst (v := (1 : Int32)) hx hb dX5_isFull_24 (by decide) ?_
          refine lv_goto (tgt := 29) hx hb dX5_isFull_25 (by decide) ?_
          refine lv_istore_n (lv' := [(2, .int (1 : Int32)), (0, .ref (ad E 39)), (1, .int b1), (3, .int v3)]) hx hb dX5_isFull_29 rfl hl (by decide) rfl (fun ls hl => ?_)
          obtain ⟨x_9, ex_9⟩ : ∃ y : Int32, y = (v3 + (1 : Int32)) := ⟨_, rfl⟩
          have hf := lt_at hf ex_9
          refine lv_iinc (v := x_9) (lv' := [(3, .int x_9), (2, .int (1 : Int32)), (0, .ref (ad E 39)), (1, .int b1)]) hx hb dX5_isFull_30 hl (k := 3) rfl (by rw [ex_9]; rfl) (by decide) rfl (fun ls hl => ?_)
          refine lv_goto (tgt := 4) hx hb dX5_isFull_33 (by decide) ?_
          exact ih (1 : Int32) x_9 σ_5 H locs ls hf I (lv_sub hl [2, 3, 1, 0] rfl)
set_option maxHeartbeats 4000000 in
set_option maxRecDepth 100000 in
theorem c_X5_isFull (l : Launch) (E : En) (o : Int64) (a1 : Int32) (σ : St) {res : Int32 × St} (hf : f_X5_isFull a1 σ = some res) : CI l yX5_isFull wsX5_isFull rm_X5_isFull E [.ref (ad E 39), .int a1] o σ res.1 res.2 := by
  intro sz
  refine Met.ofW (cc := cX5_isFull) (maxL := 4) (ret := (some .boolean)) (by decide) rfl ?_
  intro p e s m args below meth c s₁ B hml hv
  obtain ⟨rfl, hv⟩ := hv
  obtain ⟨rfl, hK, I⟩ := hv.start
  have C : Cx p c cX5_isFull 4 s m _ wsX5_isFull RX5 E := ⟨⟨B.exec, B.bytes, hml, findClass_of_methodNamed B.named, atoms_spec (ws := wsX5_isFull) B.pre⟩, hK⟩
  have hx := C.1.1
  have hb := C.1.2.1
  have hr := B.returns
  have hlocks := B.notSynchronized
  clear hv
  have hl := lv_entry ([.ref (ad E 39), .int a1]) (n := 4) (Nat.le_of_ble_eq_true rfl)
  rw [lg_entry_eq]
  generalize (lg_sl ([.ref (ad E 39), .int a1]) ++ List.replicate (4 - (lg_sl ([.ref (ad E 39), .int a1])).length) Slot.unset).toArray = ls at hl ⊢
  have hl : lv_has ls 4 [(0, .ref (ad E 39)), (1, .int a1)] := hl
  generalize ([.ref (ad E 39), .int a1] : List Value).toArray = args at C ⊢
  refine g_begin I (fun H locs I => ?_)
  rw [f_X5_isFull] at hf
  refine lv_iconst (v := (0 : Int32)) hx hb dX5_isFull_0 (by decide) ?_
  refine lv_istore_n (lv' := [(2, .int (0 : Int32)), (0, .ref (ad E 39)), (1, .int a1)]) hx hb dX5_isFull_1 rfl hl (by decide) rfl (fun ls hl => ?_)
  refine lv_iconst (v := (0 : Int32)) hx hb dX5_isFull_2 (by decide) ?_
  refine lv_istore_n (lv' := [(3, .int (0 : Int32)), (2, .int (0 : Int32)), (0, .ref (ad E 39)), (1, .int a1)]) hx hb dX5_isFull_3 rfl hl (by decide) rfl (fun ls hl => ?_)
  refine lp_X5_isFull_4 C hr hlocks a1 _ ?_ _ (0 : Int32) (0 : Int32) σ H locs ls hf I (lv_sub hl [2, 3, 1, 0] rfl)
  · intro y_10 σ_11 H locs ls hf I hl
    refine lv_iload_n hx hb dX5_isFull_36 rfl (lv_at hl 0 rfl) ?_
    obtain ⟨h_12, hf⟩ := ck_some hf
    exact g_zret C I hr hlocks (zob_nar h_12) hf dX5_isFull_37
abbrev rm_X5_mix : Room := { frames := 0, cells := 0, slots := 0, locals := 0 }
abbrev WW_X5_mix (p : Program) (l : Launch) (e : Env) (s : State) (m : MethodId) (args : Array Value) (below : List Frame) (meth : Method) (c : Code) (E : En) (o : Int64) (res : Int32 × St) (H : Heap) (locs : List Loc) (cells slots : Nat) (g : JFrame) : Prop := W p l e (headSpec wsX5_mix rm_X5_mix).room s m args below meth c H locs cells slots (MQ below (Qi E s.heap.size o res.1 res.2) args s 0 0 (AA E s.heap.size)) g
theorem k_X5_mix_98 : Cond.constant RX5 98 (-1028477387 : Int32) ∈ wsX5_mix := by decide +kernel
theorem k_X5_mix_97 : Cond.constant RX5 97 (-2048144789 : Int32) ∈ wsX5_mix := by decide +kernel
set_option maxHeartbeats 4000000 in
set_option maxRecDepth 100000 in
theorem c_X5_mix (l : Launch) (E : En) (o : Int64) (a0 : Int32) (σ : St) {res : Int32 × St} (hf : f_X5_mix a0 σ = some res) : CI l yX5_mix wsX5_mix rm_X5_mix E [.int a0] o σ res.1 res.2 := by
  intro sz
  refine Met.ofW (cc := cX5_mix) (maxL := 2) (ret := (some .int)) (by decide) rfl ?_
  intro p e s m args below meth c s₁ B hml hv
  obtain ⟨rfl, hv⟩ := hv
  obtain ⟨rfl, hK, I⟩ := hv.start
  have C : Cx p c cX5_mix 2 s m _ wsX5_mix RX5 E := ⟨⟨B.exec, B.bytes, hml, findClass_of_methodNamed B.named, atoms_spec (ws := wsX5_mix) B.pre⟩, hK⟩
  have hx := C.1.1
  have hb := C.1.2.1
  have hr := B.returns
  have hlocks := B.notSynchronized
  clear hv
  have hl := lv_entry ([.int a0]) (n := 2) (Nat.le_of_ble_eq_true rfl)
  rw [lg_entry_eq]
  generalize (lg_sl ([.int a0]) ++ List.replicate (2 - (lg_sl ([.int a0])).length) Slot.unset).toArray = ls at hl ⊢
  have hl : lv_has ls 2 [(0, .int a0)] := hl
  generalize ([.int a0] : List Value).toArray = args at C ⊢
  refine g_begin I (fun H locs I => ?_)
  rw [f_X5_mix] at hf
  refine lv_iload_n hx hb dX5_mix_0 rfl (lv_at hl 0 rfl) ?_
  refine lv_iload_n hx hb dX5_mix_1 rfl (lv_at hl 0 rfl) ?_
  refine lv_bipush (v := (15 : Int32)) hx hb dX5_mix_2 (by decide) ?_
  refine lv_iushr hx hb dX5_mix_4 rfl ?_
  refine lv_ixor hx hb dX5_mix_5 ?_
  refine lv_topi (fun x_1 ex_1 => ?_)
  have hf := lt_at hf ex_1
  refine lv_istore_n (lv' := [(1, .int x_1), (0, .int a0)]) hx hb dX5_mix_6 rfl hl (by decide) rfl (fun ls hl => ?_)
  refine lv_iload_n hx hb dX5_mix_7 rfl (lv_at hl 0 rfl) ?_
  refine lv_ldc (v := (-2048144789 : Int32)) hx hb C.1.2.2.2.1 (C.1.2.2.2.2 _ k_X5_mix_97) dX5_mix_8 ?_
  refine lv_imul hx hb dX5_mix_10 ?_
  refine lv_topi (fun x_2 ex_2 => ?_)
  have hf := lt_at hf ex_2
  refine lv_istore_n (lv' := [(1, .int x_2), (0, .int a0)]) hx hb dX5_mix_11 rfl hl (by decide) rfl (fun ls hl => ?_)
  refine lv_iload_n hx hb dX5_mix_12 rfl (lv_at hl 0 rfl) ?_
  refine lv_iload_n hx hb dX5_mix_13 rfl (lv_at hl 0 rfl) ?_
  refine lv_bipush (v := (13 : Int32)) hx hb dX5_mix_14 (by decide) ?_
  refine lv_iushr hx hb dX5_mix_16 rfl ?_
  refine lv_ixor hx hb dX5_mix_17 ?_
  refine lv_topi (fun x_3 ex_3 => ?_)
  have hf := lt_at hf ex_3
  refine lv_istore_n (lv' := [(1, .int x_3), (0, .int a0)]) hx hb dX5_mix_18 rfl hl (by decide) rfl (fun ls hl => ?_)
  refine lv_iload_n hx hb dX5_mix_19 rfl (lv_at hl 0 rfl) ?_
  refine lv_ldc (v := (-1028477387 : Int32)) hx hb C.1.2.2.2.1 (C.1.2.2.2.2 _ k_X5_mix_98) dX5_mix_20 ?_
  refine lv_imul hx hb dX5_mix_22 ?_
  refine lv_topi (fun x_4 ex_4 => ?_)
  have hf := lt_at hf ex_4
  refine lv_istore_n (lv' := [(1, .int x_4), (0, .int a0)]) hx hb dX5_mix_23 rfl hl (by decide) rfl (fun ls hl => ?_)
  refine lv_iload_n hx hb dX5_mix_24 rfl (lv_at hl 0 rfl) ?_
  refine lv_iload_n hx hb dX5_mix_25 rfl (lv_at hl 0 rfl) ?_
  refine lv_bipush (v := (16 : Int32)) hx hb dX5_mix_26 (by decide) ?_
  refine lv_iushr hx hb dX5_mix_28 rfl ?_
  refine lv_ixor hx hb dX5_mix_29 ?_
  exact g_iret C I hr hlocks hf dX5_mix_30
abbrev rm_X5_areaOf : Room := { frames := 0, cells := 0, slots := 0, locals := 0 }
abbrev WW_X5_areaOf (p : Program) (l : Launch) (e : Env) (s : State) (m : MethodId) (args : Array Value) (below : List Frame) (meth : Method) (c : Code) (E : En) (o : Int64) (res : Int32 × St) (H : Heap) (locs : List Loc) (cells slots : Nat) (g : JFrame) : Prop := W p l e (headSpec wsX5_areaOf rm_X5_areaOf).room s m args below meth c H locs cells slots (MQ below (Qi E s.heap.size o res.1 res.2) args s 0 0 (AA E s.heap.size)) g
theorem k_X5_areaOf_29 : Cond.fieldLink RX5 29 "DaySimulateModel" "weight" "[I" ∈ wsX5_areaOf := by decide +kernel
theorem k_X5_areaOf_83 : Cond.fieldLink RX5 83 "DaySimulateModel" "areas" "I" ∈ wsX5_areaOf := by decide +kernel
theorem in_X5_areaOf_X5 : ∀ w ∈ wsX50, w ∈ wsX5_areaOf := by decide +kernel
set_option maxHeartbeats 4000000 in
set_option maxRecDepth 100000 in
theorem lp_X5_areaOf_4 {l : Launch} {p : Program} {e : Env} {s : State} {m : MethodId} {args : Array Value} {below : List Frame} {meth : Method} {c : Code} {E : En} {o : Int64} {res : Int32 × St} (C : Cx p c cX5_areaOf 5 s m args wsX5_areaOf RX5 E) (hr : meth.sig.returnType = (some .int)) (hlocks : meth.locks = false) (b1 : Int32) (K27 : Int32 → St → Option (Int32 × St)) (hK27 : ∀ (u2 : Int32) (σ : St) (H : Heap) (locs : List Loc) (ls : Array Slot), K27 u2 σ = some res → Iv E (AA E s.heap.size) s.heap o σ H locs → lv_has ls 5 [(0, .ref (ad E 39)), (1, .int b1), (2, .int u2)] → WW_X5_areaOf p l e s m args below meth c E o res H locs 0 0 (F0 m 27 ls [])) :
    ∀ (n : Nat) (v2 : Int32) (v3 : Int32) (σ : St) (H : Heap) (locs : List Loc) (ls : Array Slot), f_X5_areaOf_L4 b1 K27 n v2 v3 σ = some res → Iv E (AA E s.heap.size) s.heap o σ H locs → lv_has ls 5 [(0, .ref (ad E 39)), (1, .int b1), (2, .int v2), (3, .int v3)] → WW_X5_areaOf p l e s m args below meth c E o res H locs 0 0 (F0 m 4 ls []) := by
  have hx := C.1.1
  have hb := C.1.2.1
  intro n
  induction n with
  | zero => intro v2 v3 σ H locs ls hf _ _; cases (show (none : Option (Int32 × St)) = some res from hf)
  | succ n ih =>
    intro v2 v3 σ H locs ls hf I hl
    rw [f_X5_areaOf_L4] at hf
    refine lv_iload_n hx hb dX5_areaOf_4 rfl (lv_at hl 3 rfl) ?_
    refine lv_aload_n hx hb dX5_areaOf_5 rfl (lv_at hl 0 rfl) ?_
    refine g_get (k := 39) (v := .int (σ 39 6)) C I (by decide) (gk_39 E o _) rfl in_X5_areaOf_X5 6 (by decide) (C.1.2.2.2.2 _ k_X5_areaOf_83) rfl dX5_areaOf_6 ?_
    refine lv_icmp_ge (tgt := 27) hx hb dX5_areaOf_9 (by decide) (fun c_1 => ?_) (fun c_1 => ?_)
    · have hf := if_t hf c_1
      exact hK27 v2 σ H locs ls hf I (lv_sub hl [0, 1, 2] rfl)
    · have hf := if_f hf c_1
      refine lv_iload_n hx hb dX5_areaOf_12 rfl (lv_at hl 2 rfl) ?_
      refine lv_aload_n hx hb dX5_areaOf_13 rfl (lv_at hl 0 rfl) ?_
      refine g_get (k := 39) (v := .ref (ad E 44)) C I (by decide) (gk_39 E o _) rfl in_X5_areaOf_X5 9 (by decide) (C.1.2.2.2.2 _ k_X5_areaOf_29) rfl dX5_areaOf_14 ?_
      refine lv_iload_n hx hb dX5_areaOf_17 rfl (lv_at hl 3 rfl) ?_
      obtain ⟨h_2, hf⟩ := ck_some hf
      refine g_iald (k := 44) C I (by decide) (gk_44 E o) (ixb_in h_2) dX5_areaOf_18 ?_
      refine lv_iadd hx hb dX5_areaOf_19 ?_
      refine lv_topi (fun x_3 ex_3 => ?_)
      have hf := lt_at hf ex_3
      refine lv_istore_n (lv' := [(2, .int x_3), (0, .ref (ad E 39)), (1, .int b1), (3, .int v3)]) hx hb dX5_areaOf_20 rfl hl (by decide) rfl (fun ls hl => ?_)
      obtain ⟨x_4, ex_4⟩ : ∃ y : Int32, y = (v3 + (1 : Int32)) := ⟨_, rfl⟩
      have hf := lt_at hf ex_4
      refine lv_iinc (v := x_4) (lv' := [(3, .int x_4), (2, .int x_3), (0, .ref (ad E 39)), (1, .int b1)]) hx hb dX5_areaOf_21 hl (k := 3) rfl (by rw [ex_4]; rfl) (by decide) rfl (fun ls hl => ?_)
      refine lv_goto (tgt := 4) hx hb dX5_areaOf_24 (by decide) ?_
      exact ih x_3 x_4 σ H locs ls hf I (lv_sub hl [2, 3, 1, 0] rfl)
set_option maxHeartbeats 4000000 in
set_option maxRecDepth 100000 in
theorem lp_X5_areaOf_34 {l : Launch} {p : Program} {e : Env} {s : State} {m : MethodId} {args : Array Value} {below : List Frame} {meth : Method} {c : Code} {E : En} {o : Int64} {res : Int32 × St} (C : Cx p c cX5_areaOf 5 s m args wsX5_areaOf RX5 E) (hr : meth.sig.returnType = (some .int)) (hlocks : meth.locks = false)  (K61 : Int32 → St → Option (Int32 × St)) (hK61 : ∀ (u4 : Int32) (σ : St) (H : Heap) (locs : List Loc) (ls : Array Slot), K61 u4 σ = some res → Iv E (AA E s.heap.size) s.heap o σ H locs → lv_has ls 5 [(4, .int u4)] → WW_X5_areaOf p l e s m args below meth c E o res H locs 0 0 (F0 m 61 ls [])) :
    ∀ (n : Nat) (v3 : Int32) (v4 : Int32) (σ : St) (H : Heap) (locs : List Loc) (ls : Array Slot), f_X5_areaOf_L34 K61 n v3 v4 σ = some res → Iv E (AA E s.heap.size) s.heap o σ H locs → lv_has ls 5 [(0, .ref (ad E 39)), (3, .int v3), (4, .int v4)] → WW_X5_areaOf p l e s m args below meth c E o res H locs 0 0 (F0 m 34 ls []) := by
  have hx := C.1.1
  have hb := C.1.2.1
  intro n
  induction n with
  | zero => intro v3 v4 σ H locs ls hf _ _; cases (show (none : Option (Int32 × St)) = some res from hf)
  | succ n ih =>
    intro v3 v4 σ H locs ls hf I hl
    rw [f_X5_areaOf_L34] at hf
    refine lv_iload_n hx hb dX5_areaOf_34 rfl (lv_at hl 1 rfl) ?_
    refine lv_aload_n hx hb dX5_areaOf_35 rfl (lv_at hl 0 rfl) ?_
    refine g_get (k := 39) (v := .ref (ad E 44)) C I (by decide) (gk_39 E o _) rfl in_X5_areaOf_X5 9 (by decide) (C.1.2.2.2.2 _ k_X5_areaOf_29) rfl dX5_areaOf_36 ?_
    refine lv_iload hx hb dX5_areaOf_39 (lv_at hl 2 rfl) ?_
    obtain ⟨h_8, hf⟩ := ck_some hf
    refine g_iald (k := 44) C I (by decide) (gk_44 E o) (ixb_in h_8) dX5_areaOf_41 ?_
    refine lv_icmp_lt (tgt := 61) hx hb dX5_areaOf_42 (by decide) (fun c_9 => ?_) (fun c_9 => ?_)
    · have hf := if_t hf c_9
      exact hK61 v4 σ H locs ls hf I (lv_sub hl [2] rfl)
    · have hf := if_f hf c_9
      refine lv_iload_n hx hb dX5_areaOf_45 rfl (lv_at hl 1 rfl) ?_
      refine lv_aload_n hx hb dX5_areaOf_46 rfl (lv_at hl 0 rfl) ?_
      refine g_get (k := 39) (v := .ref (ad E 44)) C I (by decide) (gk_39 E o _) rfl in_X5_areaOf_X5 9 (by decide) (C.1.2.2.2.2 _ k_X5_areaOf_29) rfl dX5_areaOf_47 ?_
      refine lv_iload hx hb dX5_areaOf_50 (lv_at hl 2 rfl) ?_
      obtain ⟨h_10, hf⟩ := ck_some hf
      refine g_iald (k := 44) C I (by decide) (gk_44 E o) (ixb_in h_10) dX5_areaOf_52 ?_
      refine lv_isub hx hb dX5_areaOf_53 ?_
      refine lv_topi (fun x_11 ex_11 => ?_)
      have hf := lt_at hf ex_11
      refine lv_istore_n (lv' := [(3, .int x_11), (0, .ref (ad E 39)), (4, .int v4)]) hx hb dX5_areaOf_54 rfl hl (by decide) rfl (fun ls hl => ?_)
      obtain ⟨x_12, ex_12⟩ : ∃ y : Int32, y = (v4 + (1 : Int32)) := ⟨_, rfl⟩
      have hf := lt_at hf ex_12
      refine lv_iinc (v := x_12) (lv' := [(4, .int x_12), (3, .int x_11), (0, .ref (ad E 39))]) hx hb dX5_areaOf_55 hl (k := 2) rfl (by rw [ex_12]; rfl) (by decide) rfl (fun ls hl => ?_)
      refine lv_goto (tgt := 34) hx hb dX5_areaOf_58 (by decide) ?_
      exact ih x_11 x_12 σ H locs ls hf I (lv_sub hl [2, 1, 0] rfl)
set_option maxHeartbeats 4000000 in
set_option maxRecDepth 100000 in
theorem c_X5_areaOf (l : Launch) (E : En) (o : Int64) (a1 : Int32) (σ : St) {res : Int32 × St} (hf : f_X5_areaOf a1 σ = some res) : CI l yX5_areaOf wsX5_areaOf rm_X5_areaOf E [.ref (ad E 39), .int a1] o σ res.1 res.2 := by
  intro sz
  refine Met.ofW (cc := cX5_areaOf) (maxL := 5) (ret := (some .int)) (by decide) rfl ?_
  intro p e s m args below meth c s₁ B hml hv
  obtain ⟨rfl, hv⟩ := hv
  obtain ⟨rfl, hK, I⟩ := hv.start
  have C : Cx p c cX5_areaOf 5 s m _ wsX5_areaOf RX5 E := ⟨⟨B.exec, B.bytes, hml, findClass_of_methodNamed B.named, atoms_spec (ws := wsX5_areaOf) B.pre⟩, hK⟩
  have hx := C.1.1
  have hb := C.1.2.1
  have hr := B.returns
  have hlocks := B.notSynchronized
  clear hv
  have hl := lv_entry ([.ref (ad E 39), .int a1]) (n := 5) (Nat.le_of_ble_eq_true rfl)
  rw [lg_entry_eq]
  generalize (lg_sl ([.ref (ad E 39), .int a1]) ++ List.replicate (5 - (lg_sl ([.ref (ad E 39), .int a1])).length) Slot.unset).toArray = ls at hl ⊢
  have hl : lv_has ls 5 [(0, .ref (ad E 39)), (1, .int a1)] := hl
  generalize ([.ref (ad E 39), .int a1] : List Value).toArray = args at C ⊢
  refine g_begin I (fun H locs I => ?_)
  rw [f_X5_areaOf] at hf
  refine lv_iconst (v := (0 : Int32)) hx hb dX5_areaOf_0 (by decide) ?_
  refine lv_istore_n (lv' := [(2, .int (0 : Int32)), (0, .ref (ad E 39)), (1, .int a1)]) hx hb dX5_areaOf_1 rfl hl (by decide) rfl (fun ls hl => ?_)
  refine lv_iconst (v := (0 : Int32)) hx hb dX5_areaOf_2 (by decide) ?_
  refine lv_istore_n (lv' := [(3, .int (0 : Int32)), (2, .int (0 : Int32)), (0, .ref (ad E 39)), (1, .int a1)]) hx hb dX5_areaOf_3 rfl hl (by decide) rfl (fun ls hl => ?_)
  refine lp_X5_areaOf_4 C hr hlocks a1 _ ?_ _ (0 : Int32) (0 : Int32) σ H locs ls hf I (lv_sub hl [2, 3, 1, 0] rfl)
  · intro y_5 σ_6 H locs ls hf I hl
    refine lv_iload_n hx hb dX5_areaOf_27 rfl (lv_at hl 1 rfl) ?_
    refine lv_iload_n hx hb dX5_areaOf_28 rfl (lv_at hl 2 rfl) ?_
    obtain ⟨h_15, hf⟩ := ck_some hf
    refine lv_irem hx hb dX5_areaOf_29 (nzb_ne h_15) ?_
    refine lv_topi (fun x_7 ex_7 => ?_)
    have hf := lt_at hf ex_7
    refine lv_istore_n (lv' := [(3, .int x_7), (0, .ref (ad E 39)), (1, .int a1), (2, .int y_5)]) hx hb dX5_areaOf_30 rfl hl (by decide) rfl (fun ls hl => ?_)
    refine lv_iconst (v := (0 : Int32)) hx hb dX5_areaOf_31 (by decide) ?_
    refine lv_istore (lv' := [(4, .int (0 : Int32)), (3, .int x_7), (0, .ref (ad E 39)), (1, .int a1), (2, .int y_5)]) hx hb dX5_areaOf_32 hl (by decide) rfl (fun ls hl => ?_)
    refine lp_X5_areaOf_34 C hr hlocks _ ?_ _ x_7 (0 : Int32) σ_6 H locs ls hf I (lv_sub hl [2, 1, 0] rfl)
    · intro y_13 σ_14 H locs ls hf I hl
      refine lv_iload hx hb dX5_areaOf_61 (lv_at hl 0 rfl) ?_
      exact g_iret C I hr hlocks hf dX5_areaOf_63
abbrev rm_X5_draw : Room := { frames := 1, cells := 0, slots := 0, locals := 24 }
abbrev WW_X5_draw (p : Program) (l : Launch) (e : Env) (s : State) (m : MethodId) (args : Array Value) (below : List Frame) (meth : Method) (c : Code) (E : En) (o : Int64) (res : Int32 × St) (H : Heap) (locs : List Loc) (cells slots : Nat) (g : JFrame) : Prop := W p l e (headSpec wsX5_draw rm_X5_draw).room s m args below meth c H locs cells slots (MQ below (Qv E s.heap.size o res.2) args s 0 0 (AA E s.heap.size)) g
theorem k_X5_draw_53 : Cond.fieldLink RX5 53 "DaySimulateModel" "way" "[I" ∈ wsX5_draw := by decide +kernel
theorem k_X5_draw_50 : Cond.fieldLink RX5 50 "DaySimulateModel" "came" "[I" ∈ wsX5_draw := by decide +kernel
theorem k_X5_draw_47 : Cond.fieldLink RX5 47 "DaySimulateModel" "unit" "[I" ∈ wsX5_draw := by decide +kernel
theorem k_X5_draw_38 : Cond.fieldLink RX5 38 "DaySimulateModel" "place" "[I" ∈ wsX5_draw := by decide +kernel
theorem k_X5_draw_44 : Cond.fieldLink RX5 44 "DaySimulateModel" "lasts" "[I" ∈ wsX5_draw := by decide +kernel
theorem k_X5_draw_41 : Cond.fieldLink RX5 41 "DaySimulateModel" "rank" "[I" ∈ wsX5_draw := by decide +kernel
theorem k_X5_draw_35 : Cond.fieldLink RX5 35 "DaySimulateModel" "minute" "[I" ∈ wsX5_draw := by decide +kernel
theorem k_X5_draw_102 : Cond.constant RX5 102 (1000003 : Int32) ∈ wsX5_draw := by decide +kernel
theorem k_X5_draw_99 : Cond.fieldLink RX5 99 "DaySimulateModel" "calls" "I" ∈ wsX5_draw := by decide +kernel
theorem in_X5_draw_X5 : ∀ w ∈ wsX50, w ∈ wsX5_draw := by decide +kernel
set_option maxHeartbeats 4000000 in
set_option maxRecDepth 100000 in
theorem lp_X5_draw_8 {l : Launch} {p : Program} {e : Env} {s : State} {m : MethodId} {args : Array Value} {below : List Frame} {meth : Method} {c : Code} {E : En} {o : Int64} {res : Int32 × St} (C : Cx p c cX5_draw 8 s m args wsX5_draw RX5 E) (hr : meth.sig.returnType = none) (hlocks : meth.locks = false) (b1 : Int32) (b2 : Int32) (b3 : Int32) (K138 : St → Option (Int32 × St)) (hK138 : ∀  (σ : St) (H : Heap) (locs : List Loc) (ls : Array Slot), K138 σ = some res → Iv E (AA E s.heap.size) s.heap o σ H locs → lv_has ls 8 [] → WW_X5_draw p l e s m args below meth c E o res H locs 0 0 (F0 m 138 ls [])) :
    ∀ (n : Nat) (v4 : Int32) (σ : St) (H : Heap) (locs : List Loc) (ls : Array Slot), f_X5_draw_L8 b1 b2 b3 K138 n v4 σ = some res → Iv E (AA E s.heap.size) s.heap o σ H locs → lv_has ls 8 [(0, .ref (ad E 39)), (1, .int b1), (2, .int b2), (3, .int b3), (4, .int v4)] → WW_X5_draw p l e s m args below meth c E o res H locs 0 0 (F0 m 8 ls []) := by
  have hx := C.1.1
  have hb := C.1.2.1
  intro n
  induction n with
  | zero => intro v4 σ H locs ls hf _ _; cases (show (none : Option (Int32 × St)) = some res from hf)
  | succ n ih =>
    intro v4 σ H locs ls hf I hl
    rw [f_X5_draw_L8] at hf
    refine lv_iload hx hb dX5_draw_8 (lv_at hl 4 rfl) ?_
    refine lv_iload_n hx hb dX5_draw_10 rfl (lv_at hl 3 rfl) ?_
    refine lv_icmp_ge (tgt := 138) hx hb dX5_draw_11 (by decide) (fun c_2 => ?_) (fun c_2 => ?_)
    · have hf := if_t hf c_2
      exact hK138  σ H locs ls hf I (lv_sub hl [] rfl)
    · have hf := if_f hf c_2
      refine lv_iload_n hx hb dX5_draw_14 rfl (lv_at hl 1 rfl) ?_
      refine lv_ldc (v := (1000003 : Int32)) hx hb C.1.2.2.2.1 (C.1.2.2.2.2 _ k_X5_draw_102) dX5_draw_15 ?_
      refine lv_iload_n hx hb dX5_draw_17 rfl (lv_at hl 2 rfl) ?_
      refine lv_imul hx hb dX5_draw_18 ?_
      refine lv_iadd hx hb dX5_draw_19 ?_
      refine lv_bipush (v := (31 : Int32)) hx hb dX5_draw_20 (by decide) ?_
      refine lv_iload hx hb dX5_draw_22 (lv_at hl 4 rfl) ?_
      refine lv_imul hx hb dX5_draw_24 ?_
      refine lv_iadd hx hb dX5_draw_25 ?_
      obtain ⟨r_3, σ_4, hg_5, hf⟩ := bd_some hf
      refine g_csi (av := [.int ((b1 + ((1000003 : Int32) * b2)) + ((31 : Int32) * v4))]) (rest := []) C I AA.new (c_X5_mix l E o (((b1 + ((1000003 : Int32) * b2)) + ((31 : Int32) * v4))) σ hg_5) (cwS 1 C.1.2.2.2.2 gX5_draw_X5_mix rfl rfl rfl (by decide +kernel) ⟨Nat.le_of_ble_eq_true rfl, Nat.le_of_ble_eq_true rfl⟩) rfl hl.1 rfl (Nat.le_of_ble_eq_true rfl) ⟨Nat.le_of_ble_eq_true rfl, Nat.le_of_ble_eq_true rfl⟩ dX5_draw_26 (fun H locs I => ?_)
      refine lv_istore (lv' := [(5, .int r_3), (0, .ref (ad E 39)), (1, .int b1), (2, .int b2), (3, .int b3), (4, .int v4)]) hx hb dX5_draw_29 hl (by decide) rfl (fun ls hl => ?_)
      refine lv_iload hx hb dX5_draw_31 (lv_at hl 0 rfl) ?_
      refine lv_iconst (v := (1 : Int32)) hx hb dX5_draw_33 (by decide) ?_
      refine lv_iadd hx hb dX5_draw_34 ?_
      obtain ⟨r_6, σ_7, hg_8, hf⟩ := bd_some hf
      refine g_csi (av := [.int (r_3 + (1 : Int32))]) (rest := []) C I AA.new (c_X5_mix l E o ((r_3 + (1 : Int32))) σ_4 hg_8) (cwS 1 C.1.2.2.2.2 gX5_draw_X5_mix rfl rfl rfl (by decide +kernel) ⟨Nat.le_of_ble_eq_true rfl, Nat.le_of_ble_eq_true rfl⟩) rfl hl.1 rfl (Nat.le_of_ble_eq_true rfl) ⟨Nat.le_of_ble_eq_true rfl, Nat.le_of_ble_eq_true rfl⟩ dX5_draw_35 (fun H locs I => ?_)
      refine lv_istore (lv' := [(6, .int r_6), (5, .int r_3), (0, .ref (ad E 39)), (1, .int b1), (2, .int b2), (3, .int b3), (4, .int v4)]) hx hb dX5_draw_38 hl (by decide) rfl (fun ls hl => ?_)
      refine lv_iload hx hb dX5_draw_40 (lv_at hl 0 rfl) ?_
      refine lv_iconst (v := (1 : Int32)) hx hb dX5_draw_42 (by decide) ?_
      refine lv_iadd hx hb dX5_draw_43 ?_
      obtain ⟨r_9, σ_10, hg_11, hf⟩ := bd_some hf
      refine g_csi (av := [.int (r_6 + (1 : Int32))]) (rest := []) C I AA.new (c_X5_mix l E o ((r_6 + (1 : Int32))) σ_7 hg_11) (cwS 1 C.1.2.2.2.2 gX5_draw_X5_mix rfl rfl rfl (by decide +kernel) ⟨Nat.le_of_ble_eq_true rfl, Nat.le_of_ble_eq_true rfl⟩) rfl hl.1 rfl (Nat.le_of_ble_eq_true rfl) ⟨Nat.le_of_ble_eq_true rfl, Nat.le_of_ble_eq_true rfl⟩ dX5_draw_44 (fun H locs I => ?_)
      refine lv_istore (lv' := [(7, .int r_9), (6, .int r_6), (5, .int r_3), (0, .ref (ad E 39)), (1, .int b1), (2, .int b2), (3, .int b3), (4, .int v4)]) hx hb dX5_draw_47 hl (by decide) rfl (fun ls hl => ?_)
      refine lv_aload_n hx hb dX5_draw_49 rfl (lv_at hl 3 rfl) ?_
      refine g_get (k := 39) (v := .ref (ad E 46)) C I (by decide) (gk_39 E o _) rfl in_X5_draw_X5 13 (by decide) (C.1.2.2.2.2 _ k_X5_draw_35) rfl dX5_draw_50 ?_
      refine lv_iload hx hb dX5_draw_53 (lv_at hl 7 rfl) ?_
      refine lv_iload hx hb dX5_draw_55 (lv_at hl 2 rfl) ?_
      refine lv_iconst (v := (4 : Int32)) hx hb dX5_draw_57 (by decide) ?_
      refine lv_iushr hx hb dX5_draw_58 rfl ?_
      refine lv_sipush (v := (1440 : Int32)) hx hb dX5_draw_59 (by decide) ?_
      refine lv_irem hx hb dX5_draw_62 (by decide) ?_
      obtain ⟨h_12, hf⟩ := ck_some hf
      refine g_iast (k := 46) C I (by decide) (gk_46 E o) (ixb_in h_12) dX5_draw_63 (fun H locs σ_13 eσ_13 I => ?_)
      have hf := lt_at hf eσ_13
      refine lv_aload_n hx hb dX5_draw_64 rfl (lv_at hl 3 rfl) ?_
      refine g_get (k := 39) (v := .ref (ad E 48)) C I (by decide) (gk_39 E o _) rfl in_X5_draw_X5 15 (by decide) (C.1.2.2.2.2 _ k_X5_draw_41) rfl dX5_draw_65 ?_
      refine lv_iload hx hb dX5_draw_68 (lv_at hl 7 rfl) ?_
      refine lv_iload hx hb dX5_draw_70 (lv_at hl 1 rfl) ?_
      refine lv_iconst (v := (3 : Int32)) hx hb dX5_draw_72 (by decide) ?_
      refine lv_iand hx hb dX5_draw_73 ?_
      obtain ⟨h_14, hf⟩ := ck_some hf
      refine g_iast (k := 48) C I (by decide) (gk_48 E o) (ixb_in h_14) dX5_draw_74 (fun H locs σ_15 eσ_15 I => ?_)
      have hf := lt_at hf eσ_15
      refine lv_aload_n hx hb dX5_draw_75 rfl (lv_at hl 3 rfl) ?_
      refine g_get (k := 39) (v := .ref (ad E 49)) C I (by decide) (gk_39 E o _) rfl in_X5_draw_X5 16 (by decide) (C.1.2.2.2.2 _ k_X5_draw_44) rfl dX5_draw_76 ?_
      refine lv_iload hx hb dX5_draw_79 (lv_at hl 7 rfl) ?_
      refine lv_bipush (v := (10 : Int32)) hx hb dX5_draw_81 (by decide) ?_
      refine lv_iload hx hb dX5_draw_83 (lv_at hl 1 rfl) ?_
      refine lv_bipush (v := (8 : Int32)) hx hb dX5_draw_85 (by decide) ?_
      refine lv_iushr hx hb dX5_draw_87 rfl ?_
      refine lv_bipush (v := (90 : Int32)) hx hb dX5_draw_88 (by decide) ?_
      refine lv_irem hx hb dX5_draw_90 (by decide) ?_
      refine lv_iadd hx hb dX5_draw_91 ?_
      obtain ⟨h_16, hf⟩ := ck_some hf
      refine g_iast (k := 49) C I (by decide) (gk_49 E o) (ixb_in h_16) dX5_draw_92 (fun H locs σ_17 eσ_17 I => ?_)
      have hf := lt_at hf eσ_17
      refine lv_aload_n hx hb dX5_draw_93 rfl (lv_at hl 3 rfl) ?_
      refine g_get (k := 39) (v := .ref (ad E 47)) C I (by decide) (gk_39 E o _) rfl in_X5_draw_X5 14 (by decide) (C.1.2.2.2.2 _ k_X5_draw_38) rfl dX5_draw_94 ?_
      refine lv_iload hx hb dX5_draw_97 (lv_at hl 7 rfl) ?_
      refine lv_aload_n hx hb dX5_draw_99 rfl (lv_at hl 3 rfl) ?_
      refine lv_iload hx hb dX5_draw_100 (lv_at hl 0 rfl) ?_
      refine lv_iconst (v := (4 : Int32)) hx hb dX5_draw_102 (by decide) ?_
      refine lv_iushr hx hb dX5_draw_103 rfl ?_
      obtain ⟨r_18, σ_19, hg_20, hf⟩ := bd_some hf
      refine g_cvi (av := [.int (ush r_9 (4 : Int32))]) (rest := [.int v4, .ref (ad E 47)]) (k := 39) C I AA.new (c_X5_areaOf l E o ((ush r_9 (4 : Int32))) σ_17 hg_20) (cwV 1 C.1.2.2.2.2 gX5_draw_X5_areaOf rfl rfl rfl (by decide +kernel) ⟨Nat.le_of_ble_eq_true rfl, Nat.le_of_ble_eq_true rfl⟩) (by decide) (gk_39 E o _) rfl rfl rfl hl.1 rfl (Nat.le_of_ble_eq_true rfl) ⟨Nat.le_of_ble_eq_true rfl, Nat.le_of_ble_eq_true rfl⟩ dX5_draw_104 (fun H locs I => ?_)
      obtain ⟨h_21, hf⟩ := ck_some hf
      refine g_iast (k := 47) C I (by decide) (gk_47 E o) (ixb_in h_21) dX5_draw_107 (fun H locs σ_22 eσ_22 I => ?_)
      have hf := lt_at hf eσ_22
      refine lv_aload_n hx hb dX5_draw_108 rfl (lv_at hl 3 rfl) ?_
      refine g_get (k := 39) (v := .ref (ad E 50)) C I (by decide) (gk_39 E o _) rfl in_X5_draw_X5 17 (by decide) (C.1.2.2.2.2 _ k_X5_draw_47) rfl dX5_draw_109 ?_
      refine lv_iload hx hb dX5_draw_112 (lv_at hl 7 rfl) ?_
      refine lv_iconst (v := (-1 : Int32)) hx hb dX5_draw_114 (by decide) ?_
      obtain ⟨h_23, hf⟩ := ck_some hf
      refine g_iast (k := 50) C I (by decide) (gk_50 E o) (ixb_in h_23) dX5_draw_115 (fun H locs σ_24 eσ_24 I => ?_)
      have hf := lt_at hf eσ_24
      refine lv_aload_n hx hb dX5_draw_116 rfl (lv_at hl 3 rfl) ?_
      refine g_get (k := 39) (v := .ref (ad E 51)) C I (by decide) (gk_39 E o _) rfl in_X5_draw_X5 18 (by decide) (C.1.2.2.2.2 _ k_X5_draw_50) rfl dX5_draw_117 ?_
      refine lv_iload hx hb dX5_draw_120 (lv_at hl 7 rfl) ?_
      refine lv_iconst (v := (-1 : Int32)) hx hb dX5_draw_122 (by decide) ?_
      obtain ⟨h_25, hf⟩ := ck_some hf
      refine g_iast (k := 51) C I (by decide) (gk_51 E o) (ixb_in h_25) dX5_draw_123 (fun H locs σ_26 eσ_26 I => ?_)
      have hf := lt_at hf eσ_26
      refine lv_aload_n hx hb dX5_draw_124 rfl (lv_at hl 3 rfl) ?_
      refine g_get (k := 39) (v := .ref (ad E 52)) C I (by decide) (gk_39 E o _) rfl in_X5_draw_X5 19 (by decide) (C.1.2.2.2.2 _ k_X5_draw_53) rfl dX5_draw_125 ?_
      refine lv_iload hx hb dX5_draw_128 (lv_at hl 7 rfl) ?_
      refine lv_iconst (v := (0 : Int32)) hx hb dX5_draw_130 (by decide) ?_
      obtain ⟨h_27, hf⟩ := ck_some hf
      refine g_iast (k := 52) C I (by decide) (gk_52 E o) (ixb_in h_27) dX5_draw_131 (fun H locs σ_28 eσ_28 I => ?_)
      have hf := lt_at hf eσ_28
      obtain ⟨x_29, ex_29⟩ : ∃ y : Int32, y = (v4 + (1 : Int32)) := ⟨_, rfl⟩
      have hf := lt_at hf ex_29
      refine lv_iinc (v := x_29) (lv' := [(4, .int x_29), (7, .int r_9), (6, .int r_6), (5, .int r_3), (0, .ref (ad E 39)), (1, .int b1), (2, .int b2), (3, .int b3)]) hx hb dX5_draw_132 hl (k := 7) rfl (by rw [ex_29]; rfl) (by decide) rfl (fun ls hl => ?_)
      refine lv_goto (tgt := 8) hx hb dX5_draw_135 (by decide) ?_
      exact ih x_29 σ_28 H locs ls hf I (lv_sub hl [4, 5, 6, 7, 0] rfl)
set_option maxHeartbeats 4000000 in
set_option maxRecDepth 100000 in
theorem c_X5_draw (l : Launch) (E : En) (o : Int64) (a1 : Int32) (a2 : Int32) (a3 : Int32) (σ : St) {res : Int32 × St} (hf : f_X5_draw a1 a2 a3 σ = some res) : CV l yX5_draw wsX5_draw rm_X5_draw E [.ref (ad E 39), .int a1, .int a2, .int a3] o σ res.2 := by
  intro sz
  refine Met.ofW (cc := cX5_draw) (maxL := 8) (ret := none) (by decide) rfl ?_
  intro p e s m args below meth c s₁ B hml hv
  obtain ⟨rfl, hv⟩ := hv
  obtain ⟨rfl, hK, I⟩ := hv.start
  have C : Cx p c cX5_draw 8 s m _ wsX5_draw RX5 E := ⟨⟨B.exec, B.bytes, hml, findClass_of_methodNamed B.named, atoms_spec (ws := wsX5_draw) B.pre⟩, hK⟩
  have hx := C.1.1
  have hb := C.1.2.1
  have hr := B.returns
  have hlocks := B.notSynchronized
  clear hv
  have hl := lv_entry ([.ref (ad E 39), .int a1, .int a2, .int a3]) (n := 8) (Nat.le_of_ble_eq_true rfl)
  rw [lg_entry_eq]
  generalize (lg_sl ([.ref (ad E 39), .int a1, .int a2, .int a3]) ++ List.replicate (8 - (lg_sl ([.ref (ad E 39), .int a1, .int a2, .int a3])).length) Slot.unset).toArray = ls at hl ⊢
  have hl : lv_has ls 8 [(0, .ref (ad E 39)), (1, .int a1), (2, .int a2), (3, .int a3)] := hl
  generalize ([.ref (ad E 39), .int a1, .int a2, .int a3] : List Value).toArray = args at C ⊢
  refine g_begin I (fun H locs I => ?_)
  rw [f_X5_draw] at hf
  refine lv_aload_n hx hb dX5_draw_0 rfl (lv_at hl 0 rfl) ?_
  refine lv_iload_n hx hb dX5_draw_1 rfl (lv_at hl 3 rfl) ?_
  refine g_put (k := 39) (v := a3) C I (by decide) (gk_39 E o) rfl in_X5_draw_X5 tyX5 tyX5_ok nmX5 12 (by decide) (C.1.2.2.2.2 _ k_X5_draw_99) rfl (by decide +kernel) (Nat.le_of_ble_eq_true rfl) rfl dX5_draw_2 (fun H locs σ_1 eσ_1 I => ?_)
  have hf := lt_at hf eσ_1
  refine lv_iconst (v := (0 : Int32)) hx hb dX5_draw_5 (by decide) ?_
  refine lv_istore (lv' := [(4, .int (0 : Int32)), (0, .ref (ad E 39)), (1, .int a1), (2, .int a2), (3, .int a3)]) hx hb dX5_draw_6 hl (by decide) rfl (fun ls hl => ?_)
  refine lp_X5_draw_8 C hr hlocks a1 a2 a3 _ ?_ _ (0 : Int32) σ_1 H locs ls hf I (lv_sub hl [1, 2, 3, 4, 0] rfl)
  · intro  σ_30 H locs ls hf I hl
    exact g_vret C I hr hlocks hf dX5_draw_138
abbrev rm_X5_size : Room := { frames := 0, cells := 0, slots := 0, locals := 0 }
abbrev WW_X5_size (p : Program) (l : Launch) (e : Env) (s : State) (m : MethodId) (args : Array Value) (below : List Frame) (meth : Method) (c : Code) (E : En) (o : Int64) (res : Int32 × St) (H : Heap) (locs : List Loc) (cells slots : Nat) (g : JFrame) : Prop := W p l e (headSpec wsX5_size rm_X5_size).room s m args below meth c H locs cells slots (MQ below (Qi E s.heap.size o res.1 res.2) args s 0 0 (AA E s.heap.size)) g
set_option maxHeartbeats 4000000 in
set_option maxRecDepth 100000 in
theorem c_X5_size (l : Launch) (E : En) (o : Int64) (a0 : Int32) (σ : St) {res : Int32 × St} (hf : f_X5_size a0 σ = some res) : CI l yX5_size wsX5_size rm_X5_size E [.int a0] o σ res.1 res.2 := by
  intro sz
  refine Met.ofW (cc := cX5_size) (maxL := 1) (ret := (some .int)) (by decide) rfl ?_
  intro p e s m args below meth c s₁ B hml hv
  obtain ⟨rfl, hv⟩ := hv
  obtain ⟨rfl, hK, I⟩ := hv.start
  have C : Cx p c cX5_size 1 s m _ wsX5_size RX5 E := ⟨⟨B.exec, B.bytes, hml, findClass_of_methodNamed B.named, atoms_spec (ws := wsX5_size) B.pre⟩, hK⟩
  have hx := C.1.1
  have hb := C.1.2.1
  have hr := B.returns
  have hlocks := B.notSynchronized
  clear hv
  have hl := lv_entry ([.int a0]) (n := 1) (Nat.le_of_ble_eq_true rfl)
  rw [lg_entry_eq]
  generalize (lg_sl ([.int a0]) ++ List.replicate (1 - (lg_sl ([.int a0])).length) Slot.unset).toArray = ls at hl ⊢
  have hl : lv_has ls 1 [(0, .int a0)] := hl
  generalize ([.int a0] : List Value).toArray = args at C ⊢
  refine g_begin I (fun H locs I => ?_)
  rw [f_X5_size] at hf
  refine lv_iload_n hx hb dX5_size_0 rfl (lv_at hl 0 rfl) ?_
  refine lv_if_ge (tgt := 9) hx hb dX5_size_1 (by decide) (fun c_1 => ?_) (fun c_1 => ?_)
  · have hf := if_t hf c_1
    refine lv_iload_n hx hb dX5_size_9 rfl (lv_at hl 0 rfl) ?_
    exact g_iret C I hr hlocks hf dX5_size_10
  · have hf := if_f hf c_1
    refine lv_iload_n hx hb dX5_size_4 rfl (lv_at hl 0 rfl) ?_
    refine lv_ineg hx hb dX5_size_5 ?_
    refine lv_goto (tgt := 10) hx hb dX5_size_6 (by decide) ?_
    exact g_iret C I hr hlocks hf dX5_size_10
abbrev rm_X5_wayOf : Room := { frames := 1, cells := 0, slots := 0, locals := 20 }
abbrev WW_X5_wayOf (p : Program) (l : Launch) (e : Env) (s : State) (m : MethodId) (args : Array Value) (below : List Frame) (meth : Method) (c : Code) (E : En) (o : Int64) (res : Int32 × St) (H : Heap) (locs : List Loc) (cells slots : Nat) (g : JFrame) : Prop := W p l e (headSpec wsX5_wayOf rm_X5_wayOf).room s m args below meth c H locs cells slots (MQ below (Qi E s.heap.size o res.1 res.2) args s 0 0 (AA E s.heap.size)) g
theorem k_X5_wayOf_7 : Cond.fieldLink RX5 7 "DaySimulateModel" "pace" "I" ∈ wsX5_wayOf := by decide +kernel
theorem k_X5_wayOf_26 : Cond.fieldLink RX5 26 "DaySimulateModel" "areaY" "[I" ∈ wsX5_wayOf := by decide +kernel
theorem k_X5_wayOf_20 : Cond.fieldLink RX5 20 "DaySimulateModel" "stationY" "[I" ∈ wsX5_wayOf := by decide +kernel
theorem k_X5_wayOf_23 : Cond.fieldLink RX5 23 "DaySimulateModel" "areaX" "[I" ∈ wsX5_wayOf := by decide +kernel
theorem k_X5_wayOf_16 : Cond.fieldLink RX5 16 "DaySimulateModel" "stationX" "[I" ∈ wsX5_wayOf := by decide +kernel
theorem in_X5_wayOf_X5 : ∀ w ∈ wsX50, w ∈ wsX5_wayOf := by decide +kernel
set_option maxHeartbeats 4000000 in
set_option maxRecDepth 100000 in
theorem c_X5_wayOf (l : Launch) (E : En) (o : Int64) (a1 : Int32) (a2 : Int32) (σ : St) {res : Int32 × St} (hf : f_X5_wayOf a1 a2 σ = some res) : CI l yX5_wayOf wsX5_wayOf rm_X5_wayOf E [.ref (ad E 39), .int a1, .int a2] o σ res.1 res.2 := by
  intro sz
  refine Met.ofW (cc := cX5_wayOf) (maxL := 4) (ret := (some .int)) (by decide) rfl ?_
  intro p e s m args below meth c s₁ B hml hv
  obtain ⟨rfl, hv⟩ := hv
  obtain ⟨rfl, hK, I⟩ := hv.start
  have C : Cx p c cX5_wayOf 4 s m _ wsX5_wayOf RX5 E := ⟨⟨B.exec, B.bytes, hml, findClass_of_methodNamed B.named, atoms_spec (ws := wsX5_wayOf) B.pre⟩, hK⟩
  have hx := C.1.1
  have hb := C.1.2.1
  have hr := B.returns
  have hlocks := B.notSynchronized
  clear hv
  have hl := lv_entry ([.ref (ad E 39), .int a1, .int a2]) (n := 4) (Nat.le_of_ble_eq_true rfl)
  rw [lg_entry_eq]
  generalize (lg_sl ([.ref (ad E 39), .int a1, .int a2]) ++ List.replicate (4 - (lg_sl ([.ref (ad E 39), .int a1, .int a2])).length) Slot.unset).toArray = ls at hl ⊢
  have hl : lv_has ls 4 [(0, .ref (ad E 39)), (1, .int a1), (2, .int a2)] := hl
  generalize ([.ref (ad E 39), .int a1, .int a2] : List Value).toArray = args at C ⊢
  refine g_begin I (fun H locs I => ?_)
  rw [f_X5_wayOf] at hf
  refine lv_aload_n hx hb dX5_wayOf_0 rfl (lv_at hl 0 rfl) ?_
  refine g_get (k := 39) (v := .ref (ad E 40)) C I (by decide) (gk_39 E o _) rfl in_X5_wayOf_X5 4 (by decide) (C.1.2.2.2.2 _ k_X5_wayOf_16) rfl dX5_wayOf_1 ?_
  refine lv_iload_n hx hb dX5_wayOf_4 rfl (lv_at hl 1 rfl) ?_
  obtain ⟨h_1, hf⟩ := ck_some hf
  refine g_iald (k := 40) C I (by decide) (gk_40 E o) (ixb_in h_1) dX5_wayOf_5 ?_
  refine lv_aload_n hx hb dX5_wayOf_6 rfl (lv_at hl 0 rfl) ?_
  refine g_get (k := 39) (v := .ref (ad E 42)) C I (by decide) (gk_39 E o _) rfl in_X5_wayOf_X5 7 (by decide) (C.1.2.2.2.2 _ k_X5_wayOf_23) rfl dX5_wayOf_7 ?_
  refine lv_iload_n hx hb dX5_wayOf_10 rfl (lv_at hl 2 rfl) ?_
  obtain ⟨h_2, hf⟩ := ck_some hf
  refine g_iald (k := 42) C I (by decide) (gk_42 E o) (ixb_in h_2) dX5_wayOf_11 ?_
  refine lv_isub hx hb dX5_wayOf_12 ?_
  obtain ⟨r_3, σ_4, hg_5, hf⟩ := bd_some hf
  refine g_csi (av := [.int ((rd σ 40 a1) - (rd σ 42 a2))]) (rest := []) C I AA.new (c_X5_size l E o (((rd σ 40 a1) - (rd σ 42 a2))) σ hg_5) (cwS 1 C.1.2.2.2.2 gX5_wayOf_X5_size rfl rfl rfl (by decide +kernel) ⟨Nat.le_of_ble_eq_true rfl, Nat.le_of_ble_eq_true rfl⟩) rfl hl.1 rfl (Nat.le_of_ble_eq_true rfl) ⟨Nat.le_of_ble_eq_true rfl, Nat.le_of_ble_eq_true rfl⟩ dX5_wayOf_13 (fun H locs I => ?_)
  refine lv_aload_n hx hb dX5_wayOf_16 rfl (lv_at hl 0 rfl) ?_
  refine g_get (k := 39) (v := .ref (ad E 41)) C I (by decide) (gk_39 E o _) rfl in_X5_wayOf_X5 5 (by decide) (C.1.2.2.2.2 _ k_X5_wayOf_20) rfl dX5_wayOf_17 ?_
  refine lv_iload_n hx hb dX5_wayOf_20 rfl (lv_at hl 1 rfl) ?_
  obtain ⟨h_6, hf⟩ := ck_some hf
  refine g_iald (k := 41) C I (by decide) (gk_41 E o) (ixb_in h_6) dX5_wayOf_21 ?_
  refine lv_aload_n hx hb dX5_wayOf_22 rfl (lv_at hl 0 rfl) ?_
  refine g_get (k := 39) (v := .ref (ad E 43)) C I (by decide) (gk_39 E o _) rfl in_X5_wayOf_X5 8 (by decide) (C.1.2.2.2.2 _ k_X5_wayOf_26) rfl dX5_wayOf_23 ?_
  refine lv_iload_n hx hb dX5_wayOf_26 rfl (lv_at hl 2 rfl) ?_
  obtain ⟨h_7, hf⟩ := ck_some hf
  refine g_iald (k := 43) C I (by decide) (gk_43 E o) (ixb_in h_7) dX5_wayOf_27 ?_
  refine lv_isub hx hb dX5_wayOf_28 ?_
  obtain ⟨r_8, σ_9, hg_10, hf⟩ := bd_some hf
  refine g_csi (av := [.int ((rd σ_4 41 a1) - (rd σ_4 43 a2))]) (rest := [.int r_3]) C I AA.new (c_X5_size l E o (((rd σ_4 41 a1) - (rd σ_4 43 a2))) σ_4 hg_10) (cwS 1 C.1.2.2.2.2 gX5_wayOf_X5_size rfl rfl rfl (by decide +kernel) ⟨Nat.le_of_ble_eq_true rfl, Nat.le_of_ble_eq_true rfl⟩) rfl hl.1 rfl (Nat.le_of_ble_eq_true rfl) ⟨Nat.le_of_ble_eq_true rfl, Nat.le_of_ble_eq_true rfl⟩ dX5_wayOf_29 (fun H locs I => ?_)
  refine lv_iadd hx hb dX5_wayOf_32 ?_
  refine lv_topi (fun x_11 ex_11 => ?_)
  have hf := lt_at hf ex_11
  refine lv_istore_n (lv' := [(3, .int x_11), (0, .ref (ad E 39)), (1, .int a1), (2, .int a2)]) hx hb dX5_wayOf_33 rfl hl (by decide) rfl (fun ls hl => ?_)
  refine lv_iload_n hx hb dX5_wayOf_34 rfl (lv_at hl 0 rfl) ?_
  refine lv_aload_n hx hb dX5_wayOf_35 rfl (lv_at hl 1 rfl) ?_
  refine g_get (k := 39) (v := .int (σ_9 39 1)) C I (by decide) (gk_39 E o _) rfl in_X5_wayOf_X5 1 (by decide) (C.1.2.2.2.2 _ k_X5_wayOf_7) rfl dX5_wayOf_36 ?_
  refine lv_imul hx hb dX5_wayOf_39 ?_
  refine lv_iconst (v := (3 : Int32)) hx hb dX5_wayOf_40 (by decide) ?_
  refine lv_iadd hx hb dX5_wayOf_41 ?_
  refine lv_iconst (v := (4 : Int32)) hx hb dX5_wayOf_42 (by decide) ?_
  refine lv_idiv hx hb dX5_wayOf_43 (by decide) ?_
  exact g_iret C I hr hlocks hf dX5_wayOf_44
abbrev rm_X5_next : Room := { frames := 0, cells := 0, slots := 0, locals := 0 }
abbrev WW_X5_next (p : Program) (l : Launch) (e : Env) (s : State) (m : MethodId) (args : Array Value) (below : List Frame) (meth : Method) (c : Code) (E : En) (o : Int64) (res : Int32 × St) (H : Heap) (locs : List Loc) (cells slots : Nat) (g : JFrame) : Prop := W p l e (headSpec wsX5_next rm_X5_next).room s m args below meth c H locs cells slots (MQ below (Qi E s.heap.size o res.1 res.2) args s 0 0 (AA E s.heap.size)) g
theorem k_X5_next_35 : Cond.fieldLink RX5 35 "DaySimulateModel" "minute" "[I" ∈ wsX5_next := by decide +kernel
theorem k_X5_next_41 : Cond.fieldLink RX5 41 "DaySimulateModel" "rank" "[I" ∈ wsX5_next := by decide +kernel
theorem k_X5_next_47 : Cond.fieldLink RX5 47 "DaySimulateModel" "unit" "[I" ∈ wsX5_next := by decide +kernel
theorem k_X5_next_99 : Cond.fieldLink RX5 99 "DaySimulateModel" "calls" "I" ∈ wsX5_next := by decide +kernel
theorem in_X5_next_X5 : ∀ w ∈ wsX50, w ∈ wsX5_next := by decide +kernel
set_option maxHeartbeats 4000000 in
set_option maxRecDepth 100000 in
theorem lp_X5_next_4 {l : Launch} {p : Program} {e : Env} {s : State} {m : MethodId} {args : Array Value} {below : List Frame} {meth : Method} {c : Code} {E : En} {o : Int64} {res : Int32 × St} (C : Cx p c cX5_next 6 s m args wsX5_next RX5 E) (hr : meth.sig.returnType = (some .int)) (hlocks : meth.locks = false) (b1 : Int32) (K116 : Int32 → St → Option (Int32 × St)) (hK116 : ∀ (u2 : Int32) (σ : St) (H : Heap) (locs : List Loc) (ls : Array Slot), K116 u2 σ = some res → Iv E (AA E s.heap.size) s.heap o σ H locs → lv_has ls 6 [(2, .int u2)] → WW_X5_next p l e s m args below meth c E o res H locs 0 0 (F0 m 116 ls [])) :
    ∀ (n : Nat) (v2 : Int32) (v3 : Int32) (σ : St) (H : Heap) (locs : List Loc) (ls : Array Slot), f_X5_next_L4 b1 K116 n v2 v3 σ = some res → Iv E (AA E s.heap.size) s.heap o σ H locs → lv_has ls 6 [(0, .ref (ad E 39)), (1, .int b1), (2, .int v2), (3, .int v3)] → WW_X5_next p l e s m args below meth c E o res H locs 0 0 (F0 m 4 ls []) := by
  have hx := C.1.1
  have hb := C.1.2.1
  intro n
  induction n with
  | zero => intro v2 v3 σ H locs ls hf _ _; cases (show (none : Option (Int32 × St)) = some res from hf)
  | succ n ih =>
    intro v2 v3 σ H locs ls hf I hl
    rw [f_X5_next_L4] at hf
    refine lv_iload_n hx hb dX5_next_4 rfl (lv_at hl 3 rfl) ?_
    refine lv_aload_n hx hb dX5_next_5 rfl (lv_at hl 0 rfl) ?_
    refine g_get (k := 39) (v := .int (σ 39 12)) C I (by decide) (gk_39 E o _) rfl in_X5_next_X5 12 (by decide) (C.1.2.2.2.2 _ k_X5_next_99) rfl dX5_next_6 ?_
    refine lv_icmp_ge (tgt := 116) hx hb dX5_next_9 (by decide) (fun c_1 => ?_) (fun c_1 => ?_)
    · have hf := if_t hf c_1
      exact hK116 v2 σ H locs ls hf I (lv_sub hl [2] rfl)
    · have hf := if_f hf c_1
      refine lv_aload_n hx hb dX5_next_12 rfl (lv_at hl 0 rfl) ?_
      refine g_get (k := 39) (v := .ref (ad E 50)) C I (by decide) (gk_39 E o _) rfl in_X5_next_X5 17 (by decide) (C.1.2.2.2.2 _ k_X5_next_47) rfl dX5_next_13 ?_
      refine lv_iload_n hx hb dX5_next_16 rfl (lv_at hl 3 rfl) ?_
      obtain ⟨h_2, hf⟩ := ck_some hf
      refine g_iald (k := 50) C I (by decide) (gk_50 E o) (ixb_in h_2) dX5_next_17 ?_
      obtain ⟨J_4, eJ_4, hf⟩ := lt_split hf
      have hJ_4 : ∀ (y_7 : Int32) (σ_8 : St) (H : Heap) (locs : List Loc) (ls : Array Slot), J_4 y_7 σ_8 = some res → Iv E (AA E s.heap.size) s.heap o σ_8 H locs → lv_has ls 6 [(0, .ref (ad E 39)), (1, .int b1), (2, .int v2), (3, .int v3)] → WW_X5_next p l e s m args below meth c E o res H locs 0 0 (F0 m 36 ls [.int y_7]) := by
        intro y_7 σ_8 H locs ls hf I hl
        rw [eJ_4] at hf
        refine lv_istore (lv' := [(4, .int y_7), (0, .ref (ad E 39)), (1, .int b1), (2, .int v2), (3, .int v3)]) hx hb dX5_next_36 hl (by decide) rfl (fun ls hl => ?_)
        refine lv_iload_n hx hb dX5_next_38 rfl (lv_at hl 3 rfl) ?_
        obtain ⟨J_10, eJ_10, hf⟩ := lt_split hf
        have hJ_10 : ∀ (y_20 : Int32) (σ_21 : St) (H : Heap) (locs : List Loc) (ls : Array Slot), J_10 y_20 σ_21 = some res → Iv E (AA E s.heap.size) s.heap o σ_21 H locs → lv_has ls 6 [(0, .ref (ad E 39)), (1, .int b1), (2, .int v2), (3, .int v3), (4, .int y_7)] → WW_X5_next p l e s m args below meth c E o res H locs 0 0 (F0 m 92 ls [.int y_20]) := by
          intro y_20 σ_21 H locs ls hf I hl
          rw [eJ_10] at hf
          refine lv_istore (lv' := [(5, .int y_20), (0, .ref (ad E 39)), (1, .int b1), (2, .int v2), (3, .int v3), (4, .int y_7)]) hx hb dX5_next_92 hl (by decide) rfl (fun ls hl => ?_)
          refine lv_iload hx hb dX5_next_94 (lv_at hl 5 rfl) ?_
          refine lv_if_eq (tgt := 108) hx hb dX5_next_96 (by decide) (fun c_22 => ?_) (fun c_22 => ?_)
          · have hf := if_t hf c_22
            refine lv_iload_n hx hb dX5_next_108 rfl (lv_at hl 3 rfl) ?_
            refine lv_istore_n (lv' := [(2, .int v2), (5, .int y_20), (0, .ref (ad E 39)), (1, .int b1), (3, .int v3), (4, .int y_7)]) hx hb dX5_next_109 rfl hl (by decide) rfl (fun ls hl => ?_)
            obtain ⟨x_23, ex_23⟩ : ∃ y : Int32, y = (v3 + (1 : Int32)) := ⟨_, rfl⟩
            have hf := lt_at hf ex_23
            refine lv_iinc (v := x_23) (lv' := [(3, .int x_23), (2, .int v2), (5, .int y_20), (0, .ref (ad E 39)), (1, .int b1), (4, .int y_7)]) hx hb dX5_next_110 hl (k := 4) rfl (by rw [ex_23]; rfl) (by decide) rfl (fun ls hl => ?_)
            refine lv_goto (tgt := 4) hx hb dX5_next_113 (by decide) ?_
            exact ih v2 x_23 σ_21 H locs ls hf I (lv_sub hl [3, 4, 1, 0] rfl)
          · have hf := if_f hf c_22
            refine lv_iload hx hb dX5_next_99 (lv_at hl 0 rfl) ?_
            refine lv_if_eq (tgt := 108) hx hb dX5_next_101 (by decide) (fun c_24 => ?_) (fun c_24 => ?_)
            · have hf := if_t hf c_24
              refine lv_iload_n hx hb dX5_next_108 rfl (lv_at hl 3 rfl) ?_
              refine lv_istore_n (lv' := [(2, .int v2), (5, .int y_20), (0, .ref (ad E 39)), (1, .int b1), (3, .int v3), (4, .int y_7)]) hx hb dX5_next_109 rfl hl (by decide) rfl (fun ls hl => ?_)
              obtain ⟨x_25, ex_25⟩ : ∃ y : Int32, y = (v3 + (1 : Int32)) := ⟨_, rfl⟩
              have hf := lt_at hf ex_25
              refine lv_iinc (v := x_25) (lv' := [(3, .int x_25), (2, .int v2), (5, .int y_20), (0, .ref (ad E 39)), (1, .int b1), (4, .int y_7)]) hx hb dX5_next_110 hl (k := 4) rfl (by rw [ex_25]; rfl) (by decide) rfl (fun ls hl => ?_)
              refine lv_goto (tgt := 4) hx hb dX5_next_113 (by decide) ?_
              exact ih v2 x_25 σ_21 H locs ls hf I (lv_sub hl [3, 4, 1, 0] rfl)
            · have hf := if_f hf c_24
              refine lv_iload_n hx hb dX5_next_104 rfl (lv_at hl 4 rfl) ?_
              refine lv_goto (tgt := 109) hx hb dX5_next_105 (by decide) ?_
              refine lv_istore_n (lv' := [(2, .int v3), (5, .int y_20), (0, .ref (ad E 39)), (1, .int b1), (3, .int v3), (4, .int y_7)]) hx hb dX5_next_109 rfl hl (by decide) rfl (fun ls hl => ?_)
              obtain ⟨x_26, ex_26⟩ : ∃ y : Int32, y = (v3 + (1 : Int32)) := ⟨_, rfl⟩
              have hf := lt_at hf ex_26
              refine lv_iinc (v := x_26) (lv' := [(3, .int x_26), (2, .int v3), (5, .int y_20), (0, .ref (ad E 39)), (1, .int b1), (4, .int y_7)]) hx hb dX5_next_110 hl (k := 4) rfl (by rw [ex_26]; rfl) (by decide) rfl (fun ls hl => ?_)
              refine lv_goto (tgt := 4) hx hb dX5_next_113 (by decide) ?_
              exact ih v3 x_26 σ_21 H locs ls hf I (lv_sub hl [3, 4, 1, 0] rfl)
        refine lv_if_lt (tgt := 87) hx hb dX5_next_39 (by decide) (fun c_9 => ?_) (fun c_9 => ?_)
        · have hf := if_t hf c_9
          refine lv_iconst (v := (1 : Int32)) hx hb dX5_next_87 (by decide) ?_
          refine lv_goto (tgt := 92) hx hb dX5_next_88 (by decide) ?_
          exact hJ_10 _ σ_8 H locs ls hf I (lv_sub hl [1, 2, 3, 4, 0] rfl)
        · have hf := if_f hf c_9
          refine lv_aload_n hx hb dX5_next_42 rfl (lv_at hl 1 rfl) ?_
          refine g_get (k := 39) (v := .ref (ad E 48)) C I (by decide) (gk_39 E o _) rfl in_X5_next_X5 15 (by decide) (C.1.2.2.2.2 _ k_X5_next_41) rfl dX5_next_43 ?_
          refine lv_iload_n hx hb dX5_next_46 rfl (lv_at hl 4 rfl) ?_
          obtain ⟨h_11, hf⟩ := ck_some hf
          refine g_iald (k := 48) C I (by decide) (gk_48 E o) (ixb_in h_11) dX5_next_47 ?_
          refine lv_aload_n hx hb dX5_next_48 rfl (lv_at hl 1 rfl) ?_
          refine g_get (k := 39) (v := .ref (ad E 48)) C I (by decide) (gk_39 E o _) rfl in_X5_next_X5 15 (by decide) (C.1.2.2.2.2 _ k_X5_next_41) rfl dX5_next_49 ?_
          refine lv_iload_n hx hb dX5_next_52 rfl (lv_at hl 3 rfl) ?_
          obtain ⟨h_12, hf⟩ := ck_some hf
          refine g_iald (k := 48) C I (by decide) (gk_48 E o) (ixb_in h_12) dX5_next_53 ?_
          refine lv_icmp_gt (tgt := 87) hx hb dX5_next_54 (by decide) (fun c_13 => ?_) (fun c_13 => ?_)
          · have hf := if_t hf c_13
            refine lv_iconst (v := (1 : Int32)) hx hb dX5_next_87 (by decide) ?_
            refine lv_goto (tgt := 92) hx hb dX5_next_88 (by decide) ?_
            exact hJ_10 _ σ_8 H locs ls hf I (lv_sub hl [1, 2, 3, 4, 0] rfl)
          · have hf := if_f hf c_13
            refine lv_aload_n hx hb dX5_next_57 rfl (lv_at hl 1 rfl) ?_
            refine g_get (k := 39) (v := .ref (ad E 48)) C I (by decide) (gk_39 E o _) rfl in_X5_next_X5 15 (by decide) (C.1.2.2.2.2 _ k_X5_next_41) rfl dX5_next_58 ?_
            refine lv_iload_n hx hb dX5_next_61 rfl (lv_at hl 4 rfl) ?_
            obtain ⟨h_14, hf⟩ := ck_some hf
            refine g_iald (k := 48) C I (by decide) (gk_48 E o) (ixb_in h_14) dX5_next_62 ?_
            refine lv_aload_n hx hb dX5_next_63 rfl (lv_at hl 1 rfl) ?_
            refine g_get (k := 39) (v := .ref (ad E 48)) C I (by decide) (gk_39 E o _) rfl in_X5_next_X5 15 (by decide) (C.1.2.2.2.2 _ k_X5_next_41) rfl dX5_next_64 ?_
            refine lv_iload_n hx hb dX5_next_67 rfl (lv_at hl 3 rfl) ?_
            obtain ⟨h_15, hf⟩ := ck_some hf
            refine g_iald (k := 48) C I (by decide) (gk_48 E o) (ixb_in h_15) dX5_next_68 ?_
            refine lv_icmp_ne (tgt := 91) hx hb dX5_next_69 (by decide) (fun c_16 => ?_) (fun c_16 => ?_)
            · have hf := if_f hf c_16
              refine lv_iconst (v := (0 : Int32)) hx hb dX5_next_91 (by decide) ?_
              exact hJ_10 _ σ_8 H locs ls hf I (lv_sub hl [1, 2, 3, 4, 0] rfl)
            · have hf := if_t hf c_16
              refine lv_aload_n hx hb dX5_next_72 rfl (lv_at hl 1 rfl) ?_
              refine g_get (k := 39) (v := .ref (ad E 46)) C I (by decide) (gk_39 E o _) rfl in_X5_next_X5 13 (by decide) (C.1.2.2.2.2 _ k_X5_next_35) rfl dX5_next_73 ?_
              refine lv_iload_n hx hb dX5_next_76 rfl (lv_at hl 4 rfl) ?_
              obtain ⟨h_17, hf⟩ := ck_some hf
              refine g_iald (k := 46) C I (by decide) (gk_46 E o) (ixb_in h_17) dX5_next_77 ?_
              refine lv_aload_n hx hb dX5_next_78 rfl (lv_at hl 1 rfl) ?_
              refine g_get (k := 39) (v := .ref (ad E 46)) C I (by decide) (gk_39 E o _) rfl in_X5_next_X5 13 (by decide) (C.1.2.2.2.2 _ k_X5_next_35) rfl dX5_next_79 ?_
              refine lv_iload_n hx hb dX5_next_82 rfl (lv_at hl 3 rfl) ?_
              obtain ⟨h_18, hf⟩ := ck_some hf
              refine g_iald (k := 46) C I (by decide) (gk_46 E o) (ixb_in h_18) dX5_next_83 ?_
              refine lv_icmp_ge (tgt := 91) hx hb dX5_next_84 (by decide) (fun c_19 => ?_) (fun c_19 => ?_)
              · have hf := if_t hf c_19
                refine lv_iconst (v := (0 : Int32)) hx hb dX5_next_91 (by decide) ?_
                exact hJ_10 _ σ_8 H locs ls hf I (lv_sub hl [1, 2, 3, 4, 0] rfl)
              · have hf := if_f hf c_19
                refine lv_iconst (v := (1 : Int32)) hx hb dX5_next_87 (by decide) ?_
                refine lv_goto (tgt := 92) hx hb dX5_next_88 (by decide) ?_
                exact hJ_10 _ σ_8 H locs ls hf I (lv_sub hl [1, 2, 3, 4, 0] rfl)
      refine lv_if_ge (tgt := 35) hx hb dX5_next_18 (by decide) (fun c_3 => ?_) (fun c_3 => ?_)
      · have hf := if_t hf c_3
        refine lv_iconst (v := (0 : Int32)) hx hb dX5_next_35 (by decide) ?_
        exact hJ_4 _ σ H locs ls hf I (lv_sub hl [0, 1, 2, 3] rfl)
      · have hf := if_f hf c_3
        refine lv_aload_n hx hb dX5_next_21 rfl (lv_at hl 0 rfl) ?_
        refine g_get (k := 39) (v := .ref (ad E 46)) C I (by decide) (gk_39 E o _) rfl in_X5_next_X5 13 (by decide) (C.1.2.2.2.2 _ k_X5_next_35) rfl dX5_next_22 ?_
        refine lv_iload_n hx hb dX5_next_25 rfl (lv_at hl 3 rfl) ?_
        obtain ⟨h_5, hf⟩ := ck_some hf
        refine g_iald (k := 46) C I (by decide) (gk_46 E o) (ixb_in h_5) dX5_next_26 ?_
        refine lv_iload_n hx hb dX5_next_27 rfl (lv_at hl 1 rfl) ?_
        refine lv_icmp_gt (tgt := 35) hx hb dX5_next_28 (by decide) (fun c_6 => ?_) (fun c_6 => ?_)
        · have hf := if_t hf c_6
          refine lv_iconst (v := (0 : Int32)) hx hb dX5_next_35 (by decide) ?_
          exact hJ_4 _ σ H locs ls hf I (lv_sub hl [0, 1, 2, 3] rfl)
        · have hf := if_f hf c_6
          refine lv_iconst (v := (1 : Int32)) hx hb dX5_next_31 (by decide) ?_
          refine lv_goto (tgt := 36) hx hb dX5_next_32 (by decide) ?_
          exact hJ_4 _ σ H locs ls hf I (lv_sub hl [0, 1, 2, 3] rfl)
set_option maxHeartbeats 4000000 in
set_option maxRecDepth 100000 in
theorem c_X5_next (l : Launch) (E : En) (o : Int64) (a1 : Int32) (σ : St) {res : Int32 × St} (hf : f_X5_next a1 σ = some res) : CI l yX5_next wsX5_next rm_X5_next E [.ref (ad E 39), .int a1] o σ res.1 res.2 := by
  intro sz
  refine Met.ofW (cc := cX5_next) (maxL := 6) (ret := (some .int)) (by decide) rfl ?_
  intro p e s m args below meth c s₁ B hml hv
  obtain ⟨rfl, hv⟩ := hv
  obtain ⟨rfl, hK, I⟩ := hv.start
  have C : Cx p c cX5_next 6 s m _ wsX5_next RX5 E := ⟨⟨B.exec, B.bytes, hml, findClass_of_methodNamed B.named, atoms_spec (ws := wsX5_next) B.pre⟩, hK⟩
  have hx := C.1.1
  have hb := C.1.2.1
  have hr := B.returns
  have hlocks := B.notSynchronized
  clear hv
  have hl := lv_entry ([.ref (ad E 39), .int a1]) (n := 6) (Nat.le_of_ble_eq_true rfl)
  rw [lg_entry_eq]
  generalize (lg_sl ([.ref (ad E 39), .int a1]) ++ List.replicate (6 - (lg_sl ([.ref (ad E 39), .int a1])).length) Slot.unset).toArray = ls at hl ⊢
  have hl : lv_has ls 6 [(0, .ref (ad E 39)), (1, .int a1)] := hl
  generalize ([.ref (ad E 39), .int a1] : List Value).toArray = args at C ⊢
  refine g_begin I (fun H locs I => ?_)
  rw [f_X5_next] at hf
  refine lv_iconst (v := (-1 : Int32)) hx hb dX5_next_0 (by decide) ?_
  refine lv_istore_n (lv' := [(2, .int (-1 : Int32)), (0, .ref (ad E 39)), (1, .int a1)]) hx hb dX5_next_1 rfl hl (by decide) rfl (fun ls hl => ?_)
  refine lv_iconst (v := (0 : Int32)) hx hb dX5_next_2 (by decide) ?_
  refine lv_istore_n (lv' := [(3, .int (0 : Int32)), (2, .int (-1 : Int32)), (0, .ref (ad E 39)), (1, .int a1)]) hx hb dX5_next_3 rfl hl (by decide) rfl (fun ls hl => ?_)
  refine lp_X5_next_4 C hr hlocks a1 _ ?_ _ (-1 : Int32) (0 : Int32) σ H locs ls hf I (lv_sub hl [2, 3, 1, 0] rfl)
  · intro y_27 σ_28 H locs ls hf I hl
    refine lv_iload_n hx hb dX5_next_116 rfl (lv_at hl 0 rfl) ?_
    exact g_iret C I hr hlocks hf dX5_next_117
abbrev rm_X5_nearest : Room := { frames := 2, cells := 0, slots := 0, locals := 43 }
abbrev WW_X5_nearest (p : Program) (l : Launch) (e : Env) (s : State) (m : MethodId) (args : Array Value) (below : List Frame) (meth : Method) (c : Code) (E : En) (o : Int64) (res : Int32 × St) (H : Heap) (locs : List Loc) (cells slots : Nat) (g : JFrame) : Prop := W p l e (headSpec wsX5_nearest rm_X5_nearest).room s m args below meth c H locs cells slots (MQ below (Qi E s.heap.size o res.1 res.2) args s 0 0 (AA E s.heap.size)) g
theorem k_X5_nearest_56 : Cond.fieldLink RX5 56 "DaySimulateModel" "back" "[I" ∈ wsX5_nearest := by decide +kernel
theorem k_X5_nearest_32 : Cond.fieldLink RX5 32 "DaySimulateModel" "stands" "[I" ∈ wsX5_nearest := by decide +kernel
theorem k_X5_nearest_86 : Cond.fieldLink RX5 86 "DaySimulateModel" "units" "I" ∈ wsX5_nearest := by decide +kernel
theorem k_X5_nearest_113 : Cond.constant RX5 113 (100000000 : Int32) ∈ wsX5_nearest := by decide +kernel
theorem in_X5_nearest_X5 : ∀ w ∈ wsX50, w ∈ wsX5_nearest := by decide +kernel
set_option maxHeartbeats 4000000 in
set_option maxRecDepth 100000 in
theorem lp_X5_nearest_10 {l : Launch} {p : Program} {e : Env} {s : State} {m : MethodId} {args : Array Value} {below : List Frame} {meth : Method} {c : Code} {E : En} {o : Int64} {res : Int32 × St} (C : Cx p c cX5_nearest 8 s m args wsX5_nearest RX5 E) (hr : meth.sig.returnType = (some .int)) (hlocks : meth.locks = false) (b1 : Int32) (b2 : Int32) (b3 : Int32) (K80 : Int32 → St → Option (Int32 × St)) (hK80 : ∀ (u4 : Int32) (σ : St) (H : Heap) (locs : List Loc) (ls : Array Slot), K80 u4 σ = some res → Iv E (AA E s.heap.size) s.heap o σ H locs → lv_has ls 8 [(4, .int u4)] → WW_X5_nearest p l e s m args below meth c E o res H locs 0 0 (F0 m 80 ls [])) :
    ∀ (n : Nat) (v4 : Int32) (v5 : Int32) (v6 : Int32) (σ : St) (H : Heap) (locs : List Loc) (ls : Array Slot), f_X5_nearest_L10 b1 b2 b3 K80 n v4 v5 v6 σ = some res → Iv E (AA E s.heap.size) s.heap o σ H locs → lv_has ls 8 [(0, .ref (ad E 39)), (1, .int b1), (2, .int b2), (3, .int b3), (4, .int v4), (5, .int v5), (6, .int v6)] → WW_X5_nearest p l e s m args below meth c E o res H locs 0 0 (F0 m 10 ls []) := by
  have hx := C.1.1
  have hb := C.1.2.1
  intro n
  induction n with
  | zero => intro v4 v5 v6 σ H locs ls hf _ _; cases (show (none : Option (Int32 × St)) = some res from hf)
  | succ n ih =>
    intro v4 v5 v6 σ H locs ls hf I hl
    rw [f_X5_nearest_L10] at hf
    refine lv_iload hx hb dX5_nearest_10 (lv_at hl 6 rfl) ?_
    refine lv_aload_n hx hb dX5_nearest_12 rfl (lv_at hl 0 rfl) ?_
    refine g_get (k := 39) (v := .int (σ 39 10)) C I (by decide) (gk_39 E o _) rfl in_X5_nearest_X5 10 (by decide) (C.1.2.2.2.2 _ k_X5_nearest_86) rfl dX5_nearest_13 ?_
    refine lv_icmp_ge (tgt := 80) hx hb dX5_nearest_16 (by decide) (fun c_1 => ?_) (fun c_1 => ?_)
    · have hf := if_t hf c_1
      exact hK80 v4 σ H locs ls hf I (lv_sub hl [4] rfl)
    · have hf := if_f hf c_1
      refine lv_aload_n hx hb dX5_nearest_19 rfl (lv_at hl 0 rfl) ?_
      refine g_get (k := 39) (v := .ref (ad E 45)) C I (by decide) (gk_39 E o _) rfl in_X5_nearest_X5 11 (by decide) (C.1.2.2.2.2 _ k_X5_nearest_32) rfl dX5_nearest_20 ?_
      refine lv_bipush (v := (12 : Int32)) hx hb dX5_nearest_23 (by decide) ?_
      refine lv_iload_n hx hb dX5_nearest_25 rfl (lv_at hl 1 rfl) ?_
      refine lv_imul hx hb dX5_nearest_26 ?_
      refine lv_iload hx hb dX5_nearest_27 (lv_at hl 6 rfl) ?_
      refine lv_iadd hx hb dX5_nearest_29 ?_
      obtain ⟨h_2, hf⟩ := ck_some hf
      refine g_iald (k := 45) C I (by decide) (gk_45 E o) (ixb_in h_2) dX5_nearest_30 ?_
      refine lv_topi (fun x_3 ex_3 => ?_)
      have hf := lt_at hf ex_3
      refine lv_istore (lv' := [(7, .int x_3), (0, .ref (ad E 39)), (1, .int b1), (2, .int b2), (3, .int b3), (4, .int v4), (5, .int v5), (6, .int v6)]) hx hb dX5_nearest_31 hl (by decide) rfl (fun ls hl => ?_)
      refine lv_iload hx hb dX5_nearest_33 (lv_at hl 0 rfl) ?_
      refine lv_if_lt (tgt := 74) hx hb dX5_nearest_35 (by decide) (fun c_4 => ?_) (fun c_4 => ?_)
      · have hf := if_t hf c_4
        obtain ⟨x_5, ex_5⟩ : ∃ y : Int32, y = (v6 + (1 : Int32)) := ⟨_, rfl⟩
        have hf := lt_at hf ex_5
        refine lv_iinc (v := x_5) (lv' := [(6, .int x_5), (7, .int x_3), (0, .ref (ad E 39)), (1, .int b1), (2, .int b2), (3, .int b3), (4, .int v4), (5, .int v5)]) hx hb dX5_nearest_74 hl (k := 7) rfl (by rw [ex_5]; rfl) (by decide) rfl (fun ls hl => ?_)
        refine lv_goto (tgt := 10) hx hb dX5_nearest_77 (by decide) ?_
        exact ih v4 v5 x_5 σ H locs ls hf I (lv_sub hl [2, 3, 4, 5, 6, 7, 0] rfl)
      · have hf := if_f hf c_4
        refine lv_aload_n hx hb dX5_nearest_38 rfl (lv_at hl 1 rfl) ?_
        refine g_get (k := 39) (v := .ref (ad E 53)) C I (by decide) (gk_39 E o _) rfl in_X5_nearest_X5 20 (by decide) (C.1.2.2.2.2 _ k_X5_nearest_56) rfl dX5_nearest_39 ?_
        refine lv_iload hx hb dX5_nearest_42 (lv_at hl 7 rfl) ?_
        obtain ⟨h_6, hf⟩ := ck_some hf
        refine g_iald (k := 53) C I (by decide) (gk_53 E o) (ixb_in h_6) dX5_nearest_44 ?_
        refine lv_iload_n hx hb dX5_nearest_45 rfl (lv_at hl 4 rfl) ?_
        refine lv_icmp_gt (tgt := 74) hx hb dX5_nearest_46 (by decide) (fun c_7 => ?_) (fun c_7 => ?_)
        · have hf := if_t hf c_7
          obtain ⟨x_8, ex_8⟩ : ∃ y : Int32, y = (v6 + (1 : Int32)) := ⟨_, rfl⟩
          have hf := lt_at hf ex_8
          refine lv_iinc (v := x_8) (lv' := [(6, .int x_8), (7, .int x_3), (0, .ref (ad E 39)), (1, .int b1), (2, .int b2), (3, .int b3), (4, .int v4), (5, .int v5)]) hx hb dX5_nearest_74 hl (k := 7) rfl (by rw [ex_8]; rfl) (by decide) rfl (fun ls hl => ?_)
          refine lv_goto (tgt := 10) hx hb dX5_nearest_77 (by decide) ?_
          exact ih v4 v5 x_8 σ H locs ls hf I (lv_sub hl [2, 3, 4, 5, 6, 7, 0] rfl)
        · have hf := if_f hf c_7
          refine lv_aload_n hx hb dX5_nearest_49 rfl (lv_at hl 1 rfl) ?_
          refine lv_iload hx hb dX5_nearest_50 (lv_at hl 0 rfl) ?_
          refine lv_iload_n hx hb dX5_nearest_52 rfl (lv_at hl 3 rfl) ?_
          obtain ⟨r_9, σ_10, hg_11, hf⟩ := bd_some hf
          refine g_cvi (av := [.int x_3, .int b2]) (rest := []) (k := 39) C I AA.new (c_X5_wayOf l E o x_3 b2 σ hg_11) (cwV 2 C.1.2.2.2.2 gX5_nearest_X5_wayOf rfl rfl rfl (by decide +kernel) ⟨Nat.le_of_ble_eq_true rfl, Nat.le_of_ble_eq_true rfl⟩) (by decide) (gk_39 E o _) rfl rfl rfl hl.1 rfl (Nat.le_of_ble_eq_true rfl) ⟨Nat.le_of_ble_eq_true rfl, Nat.le_of_ble_eq_true rfl⟩ dX5_nearest_53 (fun H locs I => ?_)
          refine lv_iload hx hb dX5_nearest_56 (lv_at hl 6 rfl) ?_
          refine lv_icmp_ge (tgt := 74) hx hb dX5_nearest_58 (by decide) (fun c_12 => ?_) (fun c_12 => ?_)
          · have hf := if_t hf c_12
            obtain ⟨x_13, ex_13⟩ : ∃ y : Int32, y = (v6 + (1 : Int32)) := ⟨_, rfl⟩
            have hf := lt_at hf ex_13
            refine lv_iinc (v := x_13) (lv' := [(6, .int x_13), (7, .int x_3), (0, .ref (ad E 39)), (1, .int b1), (2, .int b2), (3, .int b3), (4, .int v4), (5, .int v5)]) hx hb dX5_nearest_74 hl (k := 7) rfl (by rw [ex_13]; rfl) (by decide) rfl (fun ls hl => ?_)
            refine lv_goto (tgt := 10) hx hb dX5_nearest_77 (by decide) ?_
            exact ih v4 v5 x_13 σ_10 H locs ls hf I (lv_sub hl [2, 3, 4, 5, 6, 7, 0] rfl)
          · have hf := if_f hf c_12
            refine lv_iload hx hb dX5_nearest_61 (lv_at hl 7 rfl) ?_
            refine lv_istore (lv' := [(4, .int v6), (7, .int x_3), (0, .ref (ad E 39)), (1, .int b1), (2, .int b2), (3, .int b3), (5, .int v5), (6, .int v6)]) hx hb dX5_nearest_63 hl (by decide) rfl (fun ls hl => ?_)
            refine lv_aload_n hx hb dX5_nearest_65 rfl (lv_at hl 2 rfl) ?_
            refine lv_iload hx hb dX5_nearest_66 (lv_at hl 1 rfl) ?_
            refine lv_iload_n hx hb dX5_nearest_68 rfl (lv_at hl 4 rfl) ?_
            obtain ⟨r_14, σ_15, hg_16, hf⟩ := bd_some hf
            refine g_cvi (av := [.int x_3, .int b2]) (rest := []) (k := 39) C I AA.new (c_X5_wayOf l E o x_3 b2 σ_10 hg_16) (cwV 2 C.1.2.2.2.2 gX5_nearest_X5_wayOf rfl rfl rfl (by decide +kernel) ⟨Nat.le_of_ble_eq_true rfl, Nat.le_of_ble_eq_true rfl⟩) (by decide) (gk_39 E o _) rfl rfl rfl hl.1 rfl (Nat.le_of_ble_eq_true rfl) ⟨Nat.le_of_ble_eq_true rfl, Nat.le_of_ble_eq_true rfl⟩ dX5_nearest_69 (fun H locs I => ?_)
            refine lv_istore (lv' := [(5, .int r_14), (4, .int v6), (7, .int x_3), (0, .ref (ad E 39)), (1, .int b1), (2, .int b2), (3, .int b3), (6, .int v6)]) hx hb dX5_nearest_72 hl (by decide) rfl (fun ls hl => ?_)
            obtain ⟨x_17, ex_17⟩ : ∃ y : Int32, y = (v6 + (1 : Int32)) := ⟨_, rfl⟩
            have hf := lt_at hf ex_17
            refine lv_iinc (v := x_17) (lv' := [(6, .int x_17), (5, .int r_14), (4, .int v6), (7, .int x_3), (0, .ref (ad E 39)), (1, .int b1), (2, .int b2), (3, .int b3)]) hx hb dX5_nearest_74 hl (k := 7) rfl (by rw [ex_17]; rfl) (by decide) rfl (fun ls hl => ?_)
            refine lv_goto (tgt := 10) hx hb dX5_nearest_77 (by decide) ?_
            exact ih v6 r_14 x_17 σ_15 H locs ls hf I (lv_sub hl [4, 5, 6, 7, 2, 1, 0] rfl)
set_option maxHeartbeats 4000000 in
set_option maxRecDepth 100000 in
theorem c_X5_nearest (l : Launch) (E : En) (o : Int64) (a1 : Int32) (a2 : Int32) (a3 : Int32) (σ : St) {res : Int32 × St} (hf : f_X5_nearest a1 a2 a3 σ = some res) : CI l yX5_nearest wsX5_nearest rm_X5_nearest E [.ref (ad E 39), .int a1, .int a2, .int a3] o σ res.1 res.2 := by
  intro sz
  refine Met.ofW (cc := cX5_nearest) (maxL := 8) (ret := (some .int)) (by decide) rfl ?_
  intro p e s m args below meth c s₁ B hml hv
  obtain ⟨rfl, hv⟩ := hv
  obtain ⟨rfl, hK, I⟩ := hv.start
  have C : Cx p c cX5_nearest 8 s m _ wsX5_nearest RX5 E := ⟨⟨B.exec, B.bytes, hml, findClass_of_methodNamed B.named, atoms_spec (ws := wsX5_nearest) B.pre⟩, hK⟩
  have hx := C.1.1
  have hb := C.1.2.1
  have hr := B.returns
  have hlocks := B.notSynchronized
  clear hv
  have hl := lv_entry ([.ref (ad E 39), .int a1, .int a2, .int a3]) (n := 8) (Nat.le_of_ble_eq_true rfl)
  rw [lg_entry_eq]
  generalize (lg_sl ([.ref (ad E 39), .int a1, .int a2, .int a3]) ++ List.replicate (8 - (lg_sl ([.ref (ad E 39), .int a1, .int a2, .int a3])).length) Slot.unset).toArray = ls at hl ⊢
  have hl : lv_has ls 8 [(0, .ref (ad E 39)), (1, .int a1), (2, .int a2), (3, .int a3)] := hl
  generalize ([.ref (ad E 39), .int a1, .int a2, .int a3] : List Value).toArray = args at C ⊢
  refine g_begin I (fun H locs I => ?_)
  rw [f_X5_nearest] at hf
  refine lv_iconst (v := (-1 : Int32)) hx hb dX5_nearest_0 (by decide) ?_
  refine lv_istore (lv' := [(4, .int (-1 : Int32)), (0, .ref (ad E 39)), (1, .int a1), (2, .int a2), (3, .int a3)]) hx hb dX5_nearest_1 hl (by decide) rfl (fun ls hl => ?_)
  refine lv_ldc (v := (100000000 : Int32)) hx hb C.1.2.2.2.1 (C.1.2.2.2.2 _ k_X5_nearest_113) dX5_nearest_3 ?_
  refine lv_istore (lv' := [(5, .int (100000000 : Int32)), (4, .int (-1 : Int32)), (0, .ref (ad E 39)), (1, .int a1), (2, .int a2), (3, .int a3)]) hx hb dX5_nearest_5 hl (by decide) rfl (fun ls hl => ?_)
  refine lv_iconst (v := (0 : Int32)) hx hb dX5_nearest_7 (by decide) ?_
  refine lv_istore (lv' := [(6, .int (0 : Int32)), (5, .int (100000000 : Int32)), (4, .int (-1 : Int32)), (0, .ref (ad E 39)), (1, .int a1), (2, .int a2), (3, .int a3)]) hx hb dX5_nearest_8 hl (by decide) rfl (fun ls hl => ?_)
  refine lp_X5_nearest_10 C hr hlocks a1 a2 a3 _ ?_ _ (-1 : Int32) (100000000 : Int32) (0 : Int32) σ H locs ls hf I (lv_sub hl [3, 4, 5, 6, 2, 1, 0] rfl)
  · intro y_18 σ_19 H locs ls hf I hl
    refine lv_iload hx hb dX5_nearest_80 (lv_at hl 0 rfl) ?_
    exact g_iret C I hr hlocks hf dX5_nearest_82
abbrev rm_X5_send : Room := { frames := 0, cells := 0, slots := 0, locals := 0 }
abbrev WW_X5_send (p : Program) (l : Launch) (e : Env) (s : State) (m : MethodId) (args : Array Value) (below : List Frame) (meth : Method) (c : Code) (E : En) (o : Int64) (res : Int32 × St) (H : Heap) (locs : List Loc) (cells slots : Nat) (g : JFrame) : Prop := W p l e (headSpec wsX5_send rm_X5_send).room s m args below meth c H locs cells slots (MQ below (Qv E s.heap.size o res.2) args s 0 0 (AA E s.heap.size)) g
theorem k_X5_send_62 : Cond.fieldLink RX5 62 "DaySimulateModel" "busy" "[I" ∈ wsX5_send := by decide +kernel
theorem k_X5_send_56 : Cond.fieldLink RX5 56 "DaySimulateModel" "back" "[I" ∈ wsX5_send := by decide +kernel
theorem k_X5_send_59 : Cond.fieldLink RX5 59 "DaySimulateModel" "work" "[I" ∈ wsX5_send := by decide +kernel
theorem k_X5_send_44 : Cond.fieldLink RX5 44 "DaySimulateModel" "lasts" "[I" ∈ wsX5_send := by decide +kernel
theorem k_X5_send_50 : Cond.fieldLink RX5 50 "DaySimulateModel" "came" "[I" ∈ wsX5_send := by decide +kernel
theorem k_X5_send_53 : Cond.fieldLink RX5 53 "DaySimulateModel" "way" "[I" ∈ wsX5_send := by decide +kernel
theorem k_X5_send_47 : Cond.fieldLink RX5 47 "DaySimulateModel" "unit" "[I" ∈ wsX5_send := by decide +kernel
theorem in_X5_send_X5 : ∀ w ∈ wsX50, w ∈ wsX5_send := by decide +kernel
set_option maxHeartbeats 4000000 in
set_option maxRecDepth 100000 in
theorem lp_X5_send_65 {l : Launch} {p : Program} {e : Env} {s : State} {m : MethodId} {args : Array Value} {below : List Frame} {meth : Method} {c : Code} {E : En} {o : Int64} {res : Int32 × St} (C : Cx p c cX5_send 6 s m args wsX5_send RX5 E) (hr : meth.sig.returnType = none) (hlocks : meth.locks = false) (b2 : Int32) (K101 : St → Option (Int32 × St)) (hK101 : ∀  (σ : St) (H : Heap) (locs : List Loc) (ls : Array Slot), K101 σ = some res → Iv E (AA E s.heap.size) s.heap o σ H locs → lv_has ls 6 [] → WW_X5_send p l e s m args below meth c E o res H locs 0 0 (F0 m 101 ls [])) :
    ∀ (n : Nat) (v5 : Int32) (σ : St) (H : Heap) (locs : List Loc) (ls : Array Slot), f_X5_send_L65 b2 K101 n v5 σ = some res → Iv E (AA E s.heap.size) s.heap o σ H locs → lv_has ls 6 [(0, .ref (ad E 39)), (2, .int b2), (5, .int v5)] → WW_X5_send p l e s m args below meth c E o res H locs 0 0 (F0 m 65 ls []) := by
  have hx := C.1.1
  have hb := C.1.2.1
  intro n
  induction n with
  | zero => intro v5 σ H locs ls hf _ _; cases (show (none : Option (Int32 × St)) = some res from hf)
  | succ n ih =>
    intro v5 σ H locs ls hf I hl
    rw [f_X5_send_L65] at hf
    refine lv_iload hx hb dX5_send_65 (lv_at hl 2 rfl) ?_
    refine lv_aload_n hx hb dX5_send_67 rfl (lv_at hl 0 rfl) ?_
    refine g_get (k := 39) (v := .ref (ad E 53)) C I (by decide) (gk_39 E o _) rfl in_X5_send_X5 20 (by decide) (C.1.2.2.2.2 _ k_X5_send_56) rfl dX5_send_68 ?_
    refine lv_iload_n hx hb dX5_send_71 rfl (lv_at hl 1 rfl) ?_
    obtain ⟨h_14, hf⟩ := ck_some hf
    refine g_iald (k := 53) C I (by decide) (gk_53 E o) (ixb_in h_14) dX5_send_72 ?_
    refine lv_icmp_ge (tgt := 101) hx hb dX5_send_73 (by decide) (fun c_15 => ?_) (fun c_15 => ?_)
    · have hf := if_t hf c_15
      exact hK101  σ H locs ls hf I (lv_sub hl [] rfl)
    · have hf := if_f hf c_15
      refine lv_iload hx hb dX5_send_76 (lv_at hl 2 rfl) ?_
      refine lv_sipush (v := (1440 : Int32)) hx hb dX5_send_78 (by decide) ?_
      refine lv_icmp_ge (tgt := 101) hx hb dX5_send_81 (by decide) (fun c_16 => ?_) (fun c_16 => ?_)
      · have hf := if_t hf c_16
        exact hK101  σ H locs ls hf I (lv_sub hl [] rfl)
      · have hf := if_f hf c_16
        refine lv_aload_n hx hb dX5_send_84 rfl (lv_at hl 0 rfl) ?_
        refine g_get (k := 39) (v := .ref (ad E 55)) C I (by decide) (gk_39 E o _) rfl in_X5_send_X5 22 (by decide) (C.1.2.2.2.2 _ k_X5_send_62) rfl dX5_send_85 ?_
        refine lv_iload hx hb dX5_send_88 (lv_at hl 2 rfl) ?_
        refine lv_dup2_11 hx hb dX5_send_90 rfl rfl ?_
        obtain ⟨h_17, hf⟩ := ck_some hf
        refine g_iald (k := 55) C I (by decide) (gk_55 E o) (ixb_in h_17) dX5_send_91 ?_
        refine lv_iconst (v := (1 : Int32)) hx hb dX5_send_92 (by decide) ?_
        refine lv_iadd hx hb dX5_send_93 ?_
        obtain ⟨h_18, hf⟩ := ck_some hf
        refine g_iast (k := 55) C I (by decide) (gk_55 E o) (ixb_in h_18) dX5_send_94 (fun H locs σ_19 eσ_19 I => ?_)
        have hf := lt_at hf eσ_19
        obtain ⟨x_20, ex_20⟩ : ∃ y : Int32, y = (v5 + (1 : Int32)) := ⟨_, rfl⟩
        have hf := lt_at hf ex_20
        refine lv_iinc (v := x_20) (lv' := [(5, .int x_20), (0, .ref (ad E 39)), (2, .int b2)]) hx hb dX5_send_95 hl (k := 2) rfl (by rw [ex_20]; rfl) (by decide) rfl (fun ls hl => ?_)
        refine lv_goto (tgt := 65) hx hb dX5_send_98 (by decide) ?_
        exact ih x_20 σ_19 H locs ls hf I (lv_sub hl [1, 2, 0] rfl)
set_option maxHeartbeats 4000000 in
set_option maxRecDepth 100000 in
theorem c_X5_send (l : Launch) (E : En) (o : Int64) (a1 : Int32) (a2 : Int32) (a3 : Int32) (a4 : Int32) (σ : St) {res : Int32 × St} (hf : f_X5_send a1 a2 a3 a4 σ = some res) : CV l yX5_send wsX5_send rm_X5_send E [.ref (ad E 39), .int a1, .int a2, .int a3, .int a4] o σ res.2 := by
  intro sz
  refine Met.ofW (cc := cX5_send) (maxL := 6) (ret := none) (by decide) rfl ?_
  intro p e s m args below meth c s₁ B hml hv
  obtain ⟨rfl, hv⟩ := hv
  obtain ⟨rfl, hK, I⟩ := hv.start
  have C : Cx p c cX5_send 6 s m _ wsX5_send RX5 E := ⟨⟨B.exec, B.bytes, hml, findClass_of_methodNamed B.named, atoms_spec (ws := wsX5_send) B.pre⟩, hK⟩
  have hx := C.1.1
  have hb := C.1.2.1
  have hr := B.returns
  have hlocks := B.notSynchronized
  clear hv
  have hl := lv_entry ([.ref (ad E 39), .int a1, .int a2, .int a3, .int a4]) (n := 6) (Nat.le_of_ble_eq_true rfl)
  rw [lg_entry_eq]
  generalize (lg_sl ([.ref (ad E 39), .int a1, .int a2, .int a3, .int a4]) ++ List.replicate (6 - (lg_sl ([.ref (ad E 39), .int a1, .int a2, .int a3, .int a4])).length) Slot.unset).toArray = ls at hl ⊢
  have hl : lv_has ls 6 [(0, .ref (ad E 39)), (1, .int a1), (2, .int a2), (3, .int a3), (4, .int a4)] := hl
  generalize ([.ref (ad E 39), .int a1, .int a2, .int a3, .int a4] : List Value).toArray = args at C ⊢
  refine g_begin I (fun H locs I => ?_)
  rw [f_X5_send] at hf
  refine lv_aload_n hx hb dX5_send_0 rfl (lv_at hl 0 rfl) ?_
  refine g_get (k := 39) (v := .ref (ad E 50)) C I (by decide) (gk_39 E o _) rfl in_X5_send_X5 17 (by decide) (C.1.2.2.2.2 _ k_X5_send_47) rfl dX5_send_1 ?_
  refine lv_iload_n hx hb dX5_send_4 rfl (lv_at hl 1 rfl) ?_
  refine lv_iload_n hx hb dX5_send_5 rfl (lv_at hl 2 rfl) ?_
  obtain ⟨h_1, hf⟩ := ck_some hf
  refine g_iast (k := 50) C I (by decide) (gk_50 E o) (ixb_in h_1) dX5_send_6 (fun H locs σ_2 eσ_2 I => ?_)
  have hf := lt_at hf eσ_2
  refine lv_aload_n hx hb dX5_send_7 rfl (lv_at hl 0 rfl) ?_
  refine g_get (k := 39) (v := .ref (ad E 52)) C I (by decide) (gk_39 E o _) rfl in_X5_send_X5 19 (by decide) (C.1.2.2.2.2 _ k_X5_send_53) rfl dX5_send_8 ?_
  refine lv_iload_n hx hb dX5_send_11 rfl (lv_at hl 1 rfl) ?_
  refine lv_iload_n hx hb dX5_send_12 rfl (lv_at hl 3 rfl) ?_
  obtain ⟨h_3, hf⟩ := ck_some hf
  refine g_iast (k := 52) C I (by decide) (gk_52 E o) (ixb_in h_3) dX5_send_13 (fun H locs σ_4 eσ_4 I => ?_)
  have hf := lt_at hf eσ_4
  refine lv_aload_n hx hb dX5_send_14 rfl (lv_at hl 0 rfl) ?_
  refine g_get (k := 39) (v := .ref (ad E 51)) C I (by decide) (gk_39 E o _) rfl in_X5_send_X5 18 (by decide) (C.1.2.2.2.2 _ k_X5_send_50) rfl dX5_send_15 ?_
  refine lv_iload_n hx hb dX5_send_18 rfl (lv_at hl 1 rfl) ?_
  refine lv_iload hx hb dX5_send_19 (lv_at hl 4 rfl) ?_
  refine lv_iload_n hx hb dX5_send_21 rfl (lv_at hl 3 rfl) ?_
  refine lv_iadd hx hb dX5_send_22 ?_
  obtain ⟨h_5, hf⟩ := ck_some hf
  refine g_iast (k := 51) C I (by decide) (gk_51 E o) (ixb_in h_5) dX5_send_23 (fun H locs σ_6 eσ_6 I => ?_)
  have hf := lt_at hf eσ_6
  refine lv_aload_n hx hb dX5_send_24 rfl (lv_at hl 0 rfl) ?_
  refine g_get (k := 39) (v := .ref (ad E 53)) C I (by decide) (gk_39 E o _) rfl in_X5_send_X5 20 (by decide) (C.1.2.2.2.2 _ k_X5_send_56) rfl dX5_send_25 ?_
  refine lv_iload_n hx hb dX5_send_28 rfl (lv_at hl 2 rfl) ?_
  refine lv_iload hx hb dX5_send_29 (lv_at hl 4 rfl) ?_
  refine lv_iconst (v := (2 : Int32)) hx hb dX5_send_31 (by decide) ?_
  refine lv_iload_n hx hb dX5_send_32 rfl (lv_at hl 3 rfl) ?_
  refine lv_imul hx hb dX5_send_33 ?_
  refine lv_iadd hx hb dX5_send_34 ?_
  refine lv_aload_n hx hb dX5_send_35 rfl (lv_at hl 0 rfl) ?_
  refine g_get (k := 39) (v := .ref (ad E 49)) C I (by decide) (gk_39 E o _) rfl in_X5_send_X5 16 (by decide) (C.1.2.2.2.2 _ k_X5_send_44) rfl dX5_send_36 ?_
  refine lv_iload_n hx hb dX5_send_39 rfl (lv_at hl 1 rfl) ?_
  obtain ⟨h_7, hf⟩ := ck_some hf
  refine g_iald (k := 49) C I (by decide) (gk_49 E o) (ixb_in h_7) dX5_send_40 ?_
  refine lv_iadd hx hb dX5_send_41 ?_
  obtain ⟨h_8, hf⟩ := ck_some hf
  refine g_iast (k := 53) C I (by decide) (gk_53 E o) (ixb_in h_8) dX5_send_42 (fun H locs σ_9 eσ_9 I => ?_)
  have hf := lt_at hf eσ_9
  refine lv_aload_n hx hb dX5_send_43 rfl (lv_at hl 0 rfl) ?_
  refine g_get (k := 39) (v := .ref (ad E 54)) C I (by decide) (gk_39 E o _) rfl in_X5_send_X5 21 (by decide) (C.1.2.2.2.2 _ k_X5_send_59) rfl dX5_send_44 ?_
  refine lv_iload_n hx hb dX5_send_47 rfl (lv_at hl 2 rfl) ?_
  refine lv_dup2_11 hx hb dX5_send_48 rfl rfl ?_
  obtain ⟨h_10, hf⟩ := ck_some hf
  refine g_iald (k := 54) C I (by decide) (gk_54 E o) (ixb_in h_10) dX5_send_49 ?_
  refine lv_aload_n hx hb dX5_send_50 rfl (lv_at hl 0 rfl) ?_
  refine g_get (k := 39) (v := .ref (ad E 53)) C I (by decide) (gk_39 E o _) rfl in_X5_send_X5 20 (by decide) (C.1.2.2.2.2 _ k_X5_send_56) rfl dX5_send_51 ?_
  refine lv_iload_n hx hb dX5_send_54 rfl (lv_at hl 2 rfl) ?_
  obtain ⟨h_11, hf⟩ := ck_some hf
  refine g_iald (k := 53) C I (by decide) (gk_53 E o) (ixb_in h_11) dX5_send_55 ?_
  refine lv_iload hx hb dX5_send_56 (lv_at hl 4 rfl) ?_
  refine lv_isub hx hb dX5_send_58 ?_
  refine lv_iadd hx hb dX5_send_59 ?_
  obtain ⟨h_12, hf⟩ := ck_some hf
  refine g_iast (k := 54) C I (by decide) (gk_54 E o) (ixb_in h_12) dX5_send_60 (fun H locs σ_13 eσ_13 I => ?_)
  have hf := lt_at hf eσ_13
  refine lv_iload hx hb dX5_send_61 (lv_at hl 4 rfl) ?_
  refine lv_istore (lv' := [(5, .int a4), (0, .ref (ad E 39)), (1, .int a1), (2, .int a2), (3, .int a3), (4, .int a4)]) hx hb dX5_send_63 hl (by decide) rfl (fun ls hl => ?_)
  refine lp_X5_send_65 C hr hlocks a2 _ ?_ _ a4 σ_13 H locs ls hf I (lv_sub hl [1, 3, 0] rfl)
  · intro  σ_21 H locs ls hf I hl
    exact g_vret C I hr hlocks hf dX5_send_101
abbrev rm_X5_later : Room := { frames := 0, cells := 0, slots := 0, locals := 0 }
abbrev WW_X5_later (p : Program) (l : Launch) (e : Env) (s : State) (m : MethodId) (args : Array Value) (below : List Frame) (meth : Method) (c : Code) (E : En) (o : Int64) (res : Int32 × St) (H : Heap) (locs : List Loc) (cells slots : Nat) (g : JFrame) : Prop := W p l e (headSpec wsX5_later rm_X5_later).room s m args below meth c H locs cells slots (MQ below (Qi E s.heap.size o res.1 res.2) args s 0 0 (AA E s.heap.size)) g
theorem k_X5_later_35 : Cond.fieldLink RX5 35 "DaySimulateModel" "minute" "[I" ∈ wsX5_later := by decide +kernel
theorem k_X5_later_99 : Cond.fieldLink RX5 99 "DaySimulateModel" "calls" "I" ∈ wsX5_later := by decide +kernel
theorem k_X5_later_56 : Cond.fieldLink RX5 56 "DaySimulateModel" "back" "[I" ∈ wsX5_later := by decide +kernel
theorem k_X5_later_86 : Cond.fieldLink RX5 86 "DaySimulateModel" "units" "I" ∈ wsX5_later := by decide +kernel
theorem k_X5_later_113 : Cond.constant RX5 113 (100000000 : Int32) ∈ wsX5_later := by decide +kernel
theorem in_X5_later_X5 : ∀ w ∈ wsX50, w ∈ wsX5_later := by decide +kernel
set_option maxHeartbeats 4000000 in
set_option maxRecDepth 100000 in
theorem lp_X5_later_5 {l : Launch} {p : Program} {e : Env} {s : State} {m : MethodId} {args : Array Value} {below : List Frame} {meth : Method} {c : Code} {E : En} {o : Int64} {res : Int32 × St} (C : Cx p c cX5_later 4 s m args wsX5_later RX5 E) (hr : meth.sig.returnType = (some .int)) (hlocks : meth.locks = false) (b1 : Int32) (K50 : Int32 → St → Option (Int32 × St)) (hK50 : ∀ (u2 : Int32) (σ : St) (H : Heap) (locs : List Loc) (ls : Array Slot), K50 u2 σ = some res → Iv E (AA E s.heap.size) s.heap o σ H locs → lv_has ls 4 [(0, .ref (ad E 39)), (1, .int b1), (2, .int u2)] → WW_X5_later p l e s m args below meth c E o res H locs 0 0 (F0 m 50 ls [])) :
    ∀ (n : Nat) (v2 : Int32) (v3 : Int32) (σ : St) (H : Heap) (locs : List Loc) (ls : Array Slot), f_X5_later_L5 b1 K50 n v2 v3 σ = some res → Iv E (AA E s.heap.size) s.heap o σ H locs → lv_has ls 4 [(0, .ref (ad E 39)), (1, .int b1), (2, .int v2), (3, .int v3)] → WW_X5_later p l e s m args below meth c E o res H locs 0 0 (F0 m 5 ls []) := by
  have hx := C.1.1
  have hb := C.1.2.1
  intro n
  induction n with
  | zero => intro v2 v3 σ H locs ls hf _ _; cases (show (none : Option (Int32 × St)) = some res from hf)
  | succ n ih =>
    intro v2 v3 σ H locs ls hf I hl
    rw [f_X5_later_L5] at hf
    refine lv_iload_n hx hb dX5_later_5 rfl (lv_at hl 3 rfl) ?_
    refine lv_aload_n hx hb dX5_later_6 rfl (lv_at hl 0 rfl) ?_
    refine g_get (k := 39) (v := .int (σ 39 12)) C I (by decide) (gk_39 E o _) rfl in_X5_later_X5 12 (by decide) (C.1.2.2.2.2 _ k_X5_later_99) rfl dX5_later_7 ?_
    refine lv_icmp_ge (tgt := 50) hx hb dX5_later_10 (by decide) (fun c_1 => ?_) (fun c_1 => ?_)
    · have hf := if_t hf c_1
      exact hK50 v2 σ H locs ls hf I (lv_sub hl [0, 1, 2] rfl)
    · have hf := if_f hf c_1
      refine lv_aload_n hx hb dX5_later_13 rfl (lv_at hl 0 rfl) ?_
      refine g_get (k := 39) (v := .ref (ad E 46)) C I (by decide) (gk_39 E o _) rfl in_X5_later_X5 13 (by decide) (C.1.2.2.2.2 _ k_X5_later_35) rfl dX5_later_14 ?_
      refine lv_iload_n hx hb dX5_later_17 rfl (lv_at hl 3 rfl) ?_
      obtain ⟨h_2, hf⟩ := ck_some hf
      refine g_iald (k := 46) C I (by decide) (gk_46 E o) (ixb_in h_2) dX5_later_18 ?_
      refine lv_iload_n hx hb dX5_later_19 rfl (lv_at hl 1 rfl) ?_
      refine lv_icmp_le (tgt := 42) hx hb dX5_later_20 (by decide) (fun c_3 => ?_) (fun c_3 => ?_)
      · have hf := if_t hf c_3
        refine lv_iload_n hx hb dX5_later_42 rfl (lv_at hl 2 rfl) ?_
        refine lv_istore_n (lv' := [(2, .int v2), (0, .ref (ad E 39)), (1, .int b1), (3, .int v3)]) hx hb dX5_later_43 rfl hl (by decide) rfl (fun ls hl => ?_)
        obtain ⟨x_4, ex_4⟩ : ∃ y : Int32, y = (v3 + (1 : Int32)) := ⟨_, rfl⟩
        have hf := lt_at hf ex_4
        refine lv_iinc (v := x_4) (lv' := [(3, .int x_4), (2, .int v2), (0, .ref (ad E 39)), (1, .int b1)]) hx hb dX5_later_44 hl (k := 3) rfl (by rw [ex_4]; rfl) (by decide) rfl (fun ls hl => ?_)
        refine lv_goto (tgt := 5) hx hb dX5_later_47 (by decide) ?_
        exact ih v2 x_4 σ H locs ls hf I (lv_sub hl [2, 3, 1, 0] rfl)
      · have hf := if_f hf c_3
        refine lv_aload_n hx hb dX5_later_23 rfl (lv_at hl 0 rfl) ?_
        refine g_get (k := 39) (v := .ref (ad E 46)) C I (by decide) (gk_39 E o _) rfl in_X5_later_X5 13 (by decide) (C.1.2.2.2.2 _ k_X5_later_35) rfl dX5_later_24 ?_
        refine lv_iload_n hx hb dX5_later_27 rfl (lv_at hl 3 rfl) ?_
        obtain ⟨h_5, hf⟩ := ck_some hf
        refine g_iald (k := 46) C I (by decide) (gk_46 E o) (ixb_in h_5) dX5_later_28 ?_
        refine lv_iload_n hx hb dX5_later_29 rfl (lv_at hl 2 rfl) ?_
        refine lv_icmp_ge (tgt := 42) hx hb dX5_later_30 (by decide) (fun c_6 => ?_) (fun c_6 => ?_)
        · have hf := if_t hf c_6
          refine lv_iload_n hx hb dX5_later_42 rfl (lv_at hl 2 rfl) ?_
          refine lv_istore_n (lv' := [(2, .int v2), (0, .ref (ad E 39)), (1, .int b1), (3, .int v3)]) hx hb dX5_later_43 rfl hl (by decide) rfl (fun ls hl => ?_)
          obtain ⟨x_7, ex_7⟩ : ∃ y : Int32, y = (v3 + (1 : Int32)) := ⟨_, rfl⟩
          have hf := lt_at hf ex_7
          refine lv_iinc (v := x_7) (lv' := [(3, .int x_7), (2, .int v2), (0, .ref (ad E 39)), (1, .int b1)]) hx hb dX5_later_44 hl (k := 3) rfl (by rw [ex_7]; rfl) (by decide) rfl (fun ls hl => ?_)
          refine lv_goto (tgt := 5) hx hb dX5_later_47 (by decide) ?_
          exact ih v2 x_7 σ H locs ls hf I (lv_sub hl [2, 3, 1, 0] rfl)
        · have hf := if_f hf c_6
          refine lv_aload_n hx hb dX5_later_33 rfl (lv_at hl 0 rfl) ?_
          refine g_get (k := 39) (v := .ref (ad E 46)) C I (by decide) (gk_39 E o _) rfl in_X5_later_X5 13 (by decide) (C.1.2.2.2.2 _ k_X5_later_35) rfl dX5_later_34 ?_
          refine lv_iload_n hx hb dX5_later_37 rfl (lv_at hl 3 rfl) ?_
          obtain ⟨h_8, hf⟩ := ck_some hf
          refine g_iald (k := 46) C I (by decide) (gk_46 E o) (ixb_in h_8) dX5_later_38 ?_
          refine lv_goto (tgt := 43) hx hb dX5_later_39 (by decide) ?_
          refine lv_topi (fun x_9 ex_9 => ?_)
          have hf := lt_at hf ex_9
          refine lv_istore_n (lv' := [(2, .int x_9), (0, .ref (ad E 39)), (1, .int b1), (3, .int v3)]) hx hb dX5_later_43 rfl hl (by decide) rfl (fun ls hl => ?_)
          obtain ⟨x_10, ex_10⟩ : ∃ y : Int32, y = (v3 + (1 : Int32)) := ⟨_, rfl⟩
          have hf := lt_at hf ex_10
          refine lv_iinc (v := x_10) (lv' := [(3, .int x_10), (2, .int x_9), (0, .ref (ad E 39)), (1, .int b1)]) hx hb dX5_later_44 hl (k := 3) rfl (by rw [ex_10]; rfl) (by decide) rfl (fun ls hl => ?_)
          refine lv_goto (tgt := 5) hx hb dX5_later_47 (by decide) ?_
          exact ih x_9 x_10 σ H locs ls hf I (lv_sub hl [2, 3, 1, 0] rfl)
set_option maxHeartbeats 4000000 in
set_option maxRecDepth 100000 in
theorem lp_X5_later_52 {l : Launch} {p : Program} {e : Env} {s : State} {m : MethodId} {args : Array Value} {below : List Frame} {meth : Method} {c : Code} {E : En} {o : Int64} {res : Int32 × St} (C : Cx p c cX5_later 4 s m args wsX5_later RX5 E) (hr : meth.sig.returnType = (some .int)) (hlocks : meth.locks = false) (b1 : Int32) (K97 : Int32 → St → Option (Int32 × St)) (hK97 : ∀ (u2 : Int32) (σ : St) (H : Heap) (locs : List Loc) (ls : Array Slot), K97 u2 σ = some res → Iv E (AA E s.heap.size) s.heap o σ H locs → lv_has ls 4 [(2, .int u2)] → WW_X5_later p l e s m args below meth c E o res H locs 0 0 (F0 m 97 ls [])) :
    ∀ (n : Nat) (v2 : Int32) (v3 : Int32) (σ : St) (H : Heap) (locs : List Loc) (ls : Array Slot), f_X5_later_L52 b1 K97 n v2 v3 σ = some res → Iv E (AA E s.heap.size) s.heap o σ H locs → lv_has ls 4 [(0, .ref (ad E 39)), (1, .int b1), (2, .int v2), (3, .int v3)] → WW_X5_later p l e s m args below meth c E o res H locs 0 0 (F0 m 52 ls []) := by
  have hx := C.1.1
  have hb := C.1.2.1
  intro n
  induction n with
  | zero => intro v2 v3 σ H locs ls hf _ _; cases (show (none : Option (Int32 × St)) = some res from hf)
  | succ n ih =>
    intro v2 v3 σ H locs ls hf I hl
    rw [f_X5_later_L52] at hf
    refine lv_iload_n hx hb dX5_later_52 rfl (lv_at hl 3 rfl) ?_
    refine lv_aload_n hx hb dX5_later_53 rfl (lv_at hl 0 rfl) ?_
    refine g_get (k := 39) (v := .int (σ 39 10)) C I (by decide) (gk_39 E o _) rfl in_X5_later_X5 10 (by decide) (C.1.2.2.2.2 _ k_X5_later_86) rfl dX5_later_54 ?_
    refine lv_icmp_ge (tgt := 97) hx hb dX5_later_57 (by decide) (fun c_13 => ?_) (fun c_13 => ?_)
    · have hf := if_t hf c_13
      exact hK97 v2 σ H locs ls hf I (lv_sub hl [2] rfl)
    · have hf := if_f hf c_13
      refine lv_aload_n hx hb dX5_later_60 rfl (lv_at hl 0 rfl) ?_
      refine g_get (k := 39) (v := .ref (ad E 53)) C I (by decide) (gk_39 E o _) rfl in_X5_later_X5 20 (by decide) (C.1.2.2.2.2 _ k_X5_later_56) rfl dX5_later_61 ?_
      refine lv_iload_n hx hb dX5_later_64 rfl (lv_at hl 3 rfl) ?_
      obtain ⟨h_14, hf⟩ := ck_some hf
      refine g_iald (k := 53) C I (by decide) (gk_53 E o) (ixb_in h_14) dX5_later_65 ?_
      refine lv_iload_n hx hb dX5_later_66 rfl (lv_at hl 1 rfl) ?_
      refine lv_icmp_le (tgt := 89) hx hb dX5_later_67 (by decide) (fun c_15 => ?_) (fun c_15 => ?_)
      · have hf := if_t hf c_15
        refine lv_iload_n hx hb dX5_later_89 rfl (lv_at hl 2 rfl) ?_
        refine lv_istore_n (lv' := [(2, .int v2), (0, .ref (ad E 39)), (1, .int b1), (3, .int v3)]) hx hb dX5_later_90 rfl hl (by decide) rfl (fun ls hl => ?_)
        obtain ⟨x_16, ex_16⟩ : ∃ y : Int32, y = (v3 + (1 : Int32)) := ⟨_, rfl⟩
        have hf := lt_at hf ex_16
        refine lv_iinc (v := x_16) (lv' := [(3, .int x_16), (2, .int v2), (0, .ref (ad E 39)), (1, .int b1)]) hx hb dX5_later_91 hl (k := 3) rfl (by rw [ex_16]; rfl) (by decide) rfl (fun ls hl => ?_)
        refine lv_goto (tgt := 52) hx hb dX5_later_94 (by decide) ?_
        exact ih v2 x_16 σ H locs ls hf I (lv_sub hl [2, 3, 1, 0] rfl)
      · have hf := if_f hf c_15
        refine lv_aload_n hx hb dX5_later_70 rfl (lv_at hl 0 rfl) ?_
        refine g_get (k := 39) (v := .ref (ad E 53)) C I (by decide) (gk_39 E o _) rfl in_X5_later_X5 20 (by decide) (C.1.2.2.2.2 _ k_X5_later_56) rfl dX5_later_71 ?_
        refine lv_iload_n hx hb dX5_later_74 rfl (lv_at hl 3 rfl) ?_
        obtain ⟨h_17, hf⟩ := ck_some hf
        refine g_iald (k := 53) C I (by decide) (gk_53 E o) (ixb_in h_17) dX5_later_75 ?_
        refine lv_iload_n hx hb dX5_later_76 rfl (lv_at hl 2 rfl) ?_
        refine lv_icmp_ge (tgt := 89) hx hb dX5_later_77 (by decide) (fun c_18 => ?_) (fun c_18 => ?_)
        · have hf := if_t hf c_18
          refine lv_iload_n hx hb dX5_later_89 rfl (lv_at hl 2 rfl) ?_
          refine lv_istore_n (lv' := [(2, .int v2), (0, .ref (ad E 39)), (1, .int b1), (3, .int v3)]) hx hb dX5_later_90 rfl hl (by decide) rfl (fun ls hl => ?_)
          obtain ⟨x_19, ex_19⟩ : ∃ y : Int32, y = (v3 + (1 : Int32)) := ⟨_, rfl⟩
          have hf := lt_at hf ex_19
          refine lv_iinc (v := x_19) (lv' := [(3, .int x_19), (2, .int v2), (0, .ref (ad E 39)), (1, .int b1)]) hx hb dX5_later_91 hl (k := 3) rfl (by rw [ex_19]; rfl) (by decide) rfl (fun ls hl => ?_)
          refine lv_goto (tgt := 52) hx hb dX5_later_94 (by decide) ?_
          exact ih v2 x_19 σ H locs ls hf I (lv_sub hl [2, 3, 1, 0] rfl)
        · have hf := if_f hf c_18
          refine lv_aload_n hx hb dX5_later_80 rfl (lv_at hl 0 rfl) ?_
          refine g_get (k := 39) (v := .ref (ad E 53)) C I (by decide) (gk_39 E o _) rfl in_X5_later_X5 20 (by decide) (C.1.2.2.2.2 _ k_X5_later_56) rfl dX5_later_81 ?_
          refine lv_iload_n hx hb dX5_later_84 rfl (lv_at hl 3 rfl) ?_
          obtain ⟨h_20, hf⟩ := ck_some hf
          refine g_iald (k := 53) C I (by decide) (gk_53 E o) (ixb_in h_20) dX5_later_85 ?_
          refine lv_goto (tgt := 90) hx hb dX5_later_86 (by decide) ?_
          refine lv_topi (fun x_21 ex_21 => ?_)
          have hf := lt_at hf ex_21
          refine lv_istore_n (lv' := [(2, .int x_21), (0, .ref (ad E 39)), (1, .int b1), (3, .int v3)]) hx hb dX5_later_90 rfl hl (by decide) rfl (fun ls hl => ?_)
          obtain ⟨x_22, ex_22⟩ : ∃ y : Int32, y = (v3 + (1 : Int32)) := ⟨_, rfl⟩
          have hf := lt_at hf ex_22
          refine lv_iinc (v := x_22) (lv' := [(3, .int x_22), (2, .int x_21), (0, .ref (ad E 39)), (1, .int b1)]) hx hb dX5_later_91 hl (k := 3) rfl (by rw [ex_22]; rfl) (by decide) rfl (fun ls hl => ?_)
          refine lv_goto (tgt := 52) hx hb dX5_later_94 (by decide) ?_
          exact ih x_21 x_22 σ H locs ls hf I (lv_sub hl [2, 3, 1, 0] rfl)
set_option maxHeartbeats 4000000 in
set_option maxRecDepth 100000 in
theorem c_X5_later (l : Launch) (E : En) (o : Int64) (a1 : Int32) (σ : St) {res : Int32 × St} (hf : f_X5_later a1 σ = some res) : CI l yX5_later wsX5_later rm_X5_later E [.ref (ad E 39), .int a1] o σ res.1 res.2 := by
  intro sz
  refine Met.ofW (cc := cX5_later) (maxL := 4) (ret := (some .int)) (by decide) rfl ?_
  intro p e s m args below meth c s₁ B hml hv
  obtain ⟨rfl, hv⟩ := hv
  obtain ⟨rfl, hK, I⟩ := hv.start
  have C : Cx p c cX5_later 4 s m _ wsX5_later RX5 E := ⟨⟨B.exec, B.bytes, hml, findClass_of_methodNamed B.named, atoms_spec (ws := wsX5_later) B.pre⟩, hK⟩
  have hx := C.1.1
  have hb := C.1.2.1
  have hr := B.returns
  have hlocks := B.notSynchronized
  clear hv
  have hl := lv_entry ([.ref (ad E 39), .int a1]) (n := 4) (Nat.le_of_ble_eq_true rfl)
  rw [lg_entry_eq]
  generalize (lg_sl ([.ref (ad E 39), .int a1]) ++ List.replicate (4 - (lg_sl ([.ref (ad E 39), .int a1])).length) Slot.unset).toArray = ls at hl ⊢
  have hl : lv_has ls 4 [(0, .ref (ad E 39)), (1, .int a1)] := hl
  generalize ([.ref (ad E 39), .int a1] : List Value).toArray = args at C ⊢
  refine g_begin I (fun H locs I => ?_)
  rw [f_X5_later] at hf
  refine lv_ldc (v := (100000000 : Int32)) hx hb C.1.2.2.2.1 (C.1.2.2.2.2 _ k_X5_later_113) dX5_later_0 ?_
  refine lv_istore_n (lv' := [(2, .int (100000000 : Int32)), (0, .ref (ad E 39)), (1, .int a1)]) hx hb dX5_later_2 rfl hl (by decide) rfl (fun ls hl => ?_)
  refine lv_iconst (v := (0 : Int32)) hx hb dX5_later_3 (by decide) ?_
  refine lv_istore_n (lv' := [(3, .int (0 : Int32)), (2, .int (100000000 : Int32)), (0, .ref (ad E 39)), (1, .int a1)]) hx hb dX5_later_4 rfl hl (by decide) rfl (fun ls hl => ?_)
  refine lp_X5_later_5 C hr hlocks a1 _ ?_ _ (100000000 : Int32) (0 : Int32) σ H locs ls hf I (lv_sub hl [2, 3, 1, 0] rfl)
  · intro y_11 σ_12 H locs ls hf I hl
    refine lv_iconst (v := (0 : Int32)) hx hb dX5_later_50 (by decide) ?_
    refine lv_istore_n (lv' := [(3, .int (0 : Int32)), (0, .ref (ad E 39)), (1, .int a1), (2, .int y_11)]) hx hb dX5_later_51 rfl hl (by decide) rfl (fun ls hl => ?_)
    refine lp_X5_later_52 C hr hlocks a1 _ ?_ _ y_11 (0 : Int32) σ_12 H locs ls hf I (lv_sub hl [1, 2, 3, 0] rfl)
    · intro y_23 σ_24 H locs ls hf I hl
      refine lv_iload_n hx hb dX5_later_97 rfl (lv_at hl 0 rfl) ?_
      exact g_iret C I hr hlocks hf dX5_later_98
abbrev rm_X5_isDay : Room := { frames := 1, cells := 0, slots := 0, locals := 22 }
abbrev WW_X5_isDay (p : Program) (l : Launch) (e : Env) (s : State) (m : MethodId) (args : Array Value) (below : List Frame) (meth : Method) (c : Code) (E : En) (o : Int64) (res : Int32 × St) (H : Heap) (locs : List Loc) (cells slots : Nat) (g : JFrame) : Prop := W p l e (headSpec wsX5_isDay rm_X5_isDay).room s m args below meth c H locs cells slots (MQ below (Qi E s.heap.size o res.1 res.2) args s 0 0 (AA E s.heap.size)) g
set_option maxHeartbeats 4000000 in
set_option maxRecDepth 100000 in
theorem c_X5_isDay (l : Launch) (E : En) (o : Int64) (a0 : Int32) (σ : St) {res : Int32 × St} (hf : f_X5_isDay a0 σ = some res) : CI l yX5_isDay wsX5_isDay rm_X5_isDay E [.int a0] o σ res.1 res.2 := by
  intro sz
  refine Met.ofW (cc := cX5_isDay) (maxL := 1) (ret := (some .boolean)) (by decide) rfl ?_
  intro p e s m args below meth c s₁ B hml hv
  obtain ⟨rfl, hv⟩ := hv
  obtain ⟨rfl, hK, I⟩ := hv.start
  have C : Cx p c cX5_isDay 1 s m _ wsX5_isDay RX5 E := ⟨⟨B.exec, B.bytes, hml, findClass_of_methodNamed B.named, atoms_spec (ws := wsX5_isDay) B.pre⟩, hK⟩
  have hx := C.1.1
  have hb := C.1.2.1
  have hr := B.returns
  have hlocks := B.notSynchronized
  clear hv
  have hl := lv_entry ([.int a0]) (n := 1) (Nat.le_of_ble_eq_true rfl)
  rw [lg_entry_eq]
  generalize (lg_sl ([.int a0]) ++ List.replicate (1 - (lg_sl ([.int a0])).length) Slot.unset).toArray = ls at hl ⊢
  have hl : lv_has ls 1 [(0, .int a0)] := hl
  generalize ([.int a0] : List Value).toArray = args at C ⊢
  refine g_begin I (fun H locs I => ?_)
  rw [f_X5_isDay] at hf
  refine lv_iload_n hx hb dX5_isDay_0 rfl (lv_at hl 0 rfl) ?_
  refine lv_iconst (v := (0 : Int32)) hx hb dX5_isDay_1 (by decide) ?_
  refine lv_sipush (v := (999 : Int32)) hx hb dX5_isDay_2 (by decide) ?_
  obtain ⟨r_1, σ_2, hg_3, hf⟩ := bd_some hf
  refine g_csi (av := [.int a0, .int (0 : Int32), .int (999 : Int32)]) (rest := []) C I AA.new (c_X5_in l E o a0 (0 : Int32) (999 : Int32) σ hg_3) (cwS 3 C.1.2.2.2.2 gX5_isDay_X5_in rfl rfl rfl (by decide +kernel) ⟨Nat.le_of_ble_eq_true rfl, Nat.le_of_ble_eq_true rfl⟩) rfl hl.1 rfl (Nat.le_of_ble_eq_true rfl) ⟨Nat.le_of_ble_eq_true rfl, Nat.le_of_ble_eq_true rfl⟩ dX5_isDay_5 (fun H locs I => ?_)
  obtain ⟨h_4, hf⟩ := ck_some hf
  exact g_zret C I hr hlocks (zob_nar h_4) hf dX5_isDay_8
abbrev rm_X5_common : Room := { frames := 0, cells := 0, slots := 0, locals := 0 }
abbrev WW_X5_common (p : Program) (l : Launch) (e : Env) (s : State) (m : MethodId) (args : Array Value) (below : List Frame) (meth : Method) (c : Code) (E : En) (o : Int64) (res : Int64 × St) (H : Heap) (locs : List Loc) (cells slots : Nat) (g : JFrame) : Prop := W p l e (headSpec wsX5_common rm_X5_common).room s m args below meth c H locs cells slots (MQ below (Ql E s.heap.size o res.1 res.2) args s 0 0 (AA E s.heap.size)) g
set_option maxHeartbeats 4000000 in
set_option maxRecDepth 100000 in
theorem lp_X5_common_6 {l : Launch} {p : Program} {e : Env} {s : State} {m : MethodId} {args : Array Value} {below : List Frame} {meth : Method} {c : Code} {E : En} {o : Int64} {res : Int64 × St} (C : Cx p c cX5_common 10 s m args wsX5_common RX5 E) (hr : meth.sig.returnType = (some .long)) (hlocks : meth.locks = false)  (K31 : Int64 → St → Option (Int64 × St)) (hK31 : ∀ (u4 : Int64) (σ : St) (H : Heap) (locs : List Loc) (ls : Array Slot), K31 u4 σ = some res → Iv E (AA E s.heap.size) s.heap o σ H locs → lv_has ls 10 [(4, .long u4)] → WW_X5_common p l e s m args below meth c E o res H locs 0 0 (F0 m 31 ls [])) :
    ∀ (n : Nat) (v4 : Int64) (v6 : Int64) (σ : St) (H : Heap) (locs : List Loc) (ls : Array Slot), f_X5_common_L6 K31 n v4 v6 σ = some res → Iv E (AA E s.heap.size) s.heap o σ H locs → lv_has ls 10 [(4, .long v4), (6, .long v6)] → WW_X5_common p l e s m args below meth c E o res H locs 0 0 (F0 m 6 ls []) := by
  have hx := C.1.1
  have hb := C.1.2.1
  intro n
  induction n with
  | zero => intro v4 v6 σ H locs ls hf _ _; cases (show (none : Option (Int64 × St)) = some res from hf)
  | succ n ih =>
    intro v4 v6 σ H locs ls hf I hl
    rw [f_X5_common_L6] at hf
    refine lv_lload hx hb dX5_common_6 (lv_at hl 1 rfl) ?_
    refine lv_lconst (v := (0 : Int64)) hx hb dX5_common_8 (by decide) ?_
    refine W.lcmp hx hb dX5_common_9 ?_
    refine lv_if_le (tgt := 31) hx hb dX5_common_10 (by decide) (fun c_1 => ?_) (fun c_1 => ?_)
    · have hf := if_t hf c_1
      exact hK31 v4 σ H locs ls hf I (lv_sub hl [0] rfl)
    · have hf := if_f hf c_1
      refine lv_lload hx hb dX5_common_13 (lv_at hl 0 rfl) ?_
      refine lv_lload hx hb dX5_common_15 (lv_at hl 1 rfl) ?_
      obtain ⟨h_3, hf⟩ := ck_some hf
      refine lv_lrem hx hb dX5_common_17 (nzl_ne h_3) ?_
      refine lv_topl (fun x_2 ex_2 => ?_)
      have hf := lt_at hf ex_2
      refine lv_lstore (lv' := [(8, .long x_2), (4, .long v4), (6, .long v6)]) hx hb dX5_common_18 hl (by decide) rfl (fun ls hl => ?_)
      refine lv_lload hx hb dX5_common_20 (lv_at hl 2 rfl) ?_
      refine lv_lstore (lv' := [(4, .long v6), (8, .long x_2), (6, .long v6)]) hx hb dX5_common_22 hl (by decide) rfl (fun ls hl => ?_)
      refine lv_lload hx hb dX5_common_24 (lv_at hl 1 rfl) ?_
      refine lv_lstore (lv' := [(6, .long x_2), (4, .long v6), (8, .long x_2)]) hx hb dX5_common_26 hl (by decide) rfl (fun ls hl => ?_)
      refine lv_goto (tgt := 6) hx hb dX5_common_28 (by decide) ?_
      exact ih v6 x_2 σ H locs ls hf I (lv_sub hl [1, 0] rfl)
set_option maxHeartbeats 4000000 in
set_option maxRecDepth 100000 in
theorem c_X5_common (l : Launch) (E : En) (o : Int64) (a0 : Int64) (a2 : Int64) (σ : St) {res : Int64 × St} (hf : f_X5_common a0 a2 σ = some res) : CL l yX5_common wsX5_common rm_X5_common E [.long a0, .long a2] o σ res.1 res.2 := by
  intro sz
  refine Met.ofW (cc := cX5_common) (maxL := 10) (ret := (some .long)) (by decide) rfl ?_
  intro p e s m args below meth c s₁ B hml hv
  obtain ⟨rfl, hv⟩ := hv
  obtain ⟨rfl, hK, I⟩ := hv.start
  have C : Cx p c cX5_common 10 s m _ wsX5_common RX5 E := ⟨⟨B.exec, B.bytes, hml, findClass_of_methodNamed B.named, atoms_spec (ws := wsX5_common) B.pre⟩, hK⟩
  have hx := C.1.1
  have hb := C.1.2.1
  have hr := B.returns
  have hlocks := B.notSynchronized
  clear hv
  have hl := lv_entry ([.long a0, .long a2]) (n := 10) (Nat.le_of_ble_eq_true rfl)
  rw [lg_entry_eq]
  generalize (lg_sl ([.long a0, .long a2]) ++ List.replicate (10 - (lg_sl ([.long a0, .long a2])).length) Slot.unset).toArray = ls at hl ⊢
  have hl : lv_has ls 10 [(0, .long a0), (2, .long a2)] := hl
  generalize ([.long a0, .long a2] : List Value).toArray = args at C ⊢
  refine g_begin I (fun H locs I => ?_)
  rw [f_X5_common] at hf
  refine lv_lload_n hx hb dX5_common_0 rfl (lv_at hl 0 rfl) ?_
  refine lv_lstore (lv' := [(4, .long a0), (0, .long a0), (2, .long a2)]) hx hb dX5_common_1 hl (by decide) rfl (fun ls hl => ?_)
  refine lv_lload_n hx hb dX5_common_3 rfl (lv_at hl 2 rfl) ?_
  refine lv_lstore (lv' := [(6, .long a2), (4, .long a0), (0, .long a0), (2, .long a2)]) hx hb dX5_common_4 hl (by decide) rfl (fun ls hl => ?_)
  refine lp_X5_common_6 C hr hlocks _ ?_ _ a0 a2 σ H locs ls hf I (lv_sub hl [1, 0] rfl)
  · intro y_4 σ_5 H locs ls hf I hl
    refine lv_lload hx hb dX5_common_31 (lv_at hl 0 rfl) ?_
    exact g_lret C I hr hlocks hf dX5_common_33
abbrev rm_X5_tail : Room := { frames := 0, cells := 0, slots := 0, locals := 0 }
abbrev WW_X5_tail (p : Program) (l : Launch) (e : Env) (s : State) (m : MethodId) (args : Array Value) (below : List Frame) (meth : Method) (c : Code) (E : En) (o : Int64) (res : Int64 × St) (H : Heap) (locs : List Loc) (cells slots : Nat) (g : JFrame) : Prop := W p l e (headSpec wsX5_tail rm_X5_tail).room s m args below meth c H locs cells slots (MQ below (Ql E s.heap.size o res.1 res.2) args s 0 0 (AA E s.heap.size)) g
set_option maxHeartbeats 4000000 in
set_option maxRecDepth 100000 in
theorem lp_X5_tail_8 {l : Launch} {p : Program} {e : Env} {s : State} {m : MethodId} {args : Array Value} {below : List Frame} {meth : Method} {c : Code} {E : En} {o : Int64} {res : Int64 × St} (C : Cx p c cX5_tail 7 s m args wsX5_tail RX5 E) (hr : meth.sig.returnType = (some .long)) (hlocks : meth.locks = false) (b0 : Int32) (b1 : Int32) (K51 : Int64 → St → Option (Int64 × St)) (hK51 : ∀ (u2 : Int64) (σ : St) (H : Heap) (locs : List Loc) (ls : Array Slot), K51 u2 σ = some res → Iv E (AA E s.heap.size) s.heap o σ H locs → lv_has ls 7 [(2, .long u2)] → WW_X5_tail p l e s m args below meth c E o res H locs 0 0 (F0 m 51 ls [])) :
    ∀ (n : Nat) (v2 : Int64) (v4 : Int64) (v6 : Int32) (σ : St) (H : Heap) (locs : List Loc) (ls : Array Slot), f_X5_tail_L8 b0 b1 K51 n v2 v4 v6 σ = some res → Iv E (AA E s.heap.size) s.heap o σ H locs → lv_has ls 7 [(0, .int b0), (1, .int b1), (2, .long v2), (4, .long v4), (6, .int v6)] → WW_X5_tail p l e s m args below meth c E o res H locs 0 0 (F0 m 8 ls []) := by
  have hx := C.1.1
  have hb := C.1.2.1
  intro n
  induction n with
  | zero => intro v2 v4 v6 σ H locs ls hf _ _; cases (show (none : Option (Int64 × St)) = some res from hf)
  | succ n ih =>
    intro v2 v4 v6 σ H locs ls hf I hl
    rw [f_X5_tail_L8] at hf
    refine lv_iload hx hb dX5_tail_8 (lv_at hl 4 rfl) ?_
    refine lv_iload_n hx hb dX5_tail_10 rfl (lv_at hl 0 rfl) ?_
    refine lv_icmp_gt (tgt := 51) hx hb dX5_tail_11 (by decide) (fun c_1 => ?_) (fun c_1 => ?_)
    · have hf := if_t hf c_1
      exact hK51 v2 σ H locs ls hf I (lv_sub hl [2] rfl)
    · have hf := if_f hf c_1
      refine lv_lload_n hx hb dX5_tail_14 rfl (lv_at hl 2 rfl) ?_
      refine lv_iload hx hb dX5_tail_15 (lv_at hl 4 rfl) ?_
      refine lv_iload_n hx hb dX5_tail_17 rfl (lv_at hl 1 rfl) ?_
      obtain ⟨J_3, eJ_3, hf⟩ := lt_split hf
      have hJ_3 : ∀ (y_4 : Int64) (σ_5 : St) (H : Heap) (locs : List Loc) (ls : Array Slot), J_3 y_4 σ_5 = some res → Iv E (AA E s.heap.size) s.heap o σ_5 H locs → lv_has ls 7 [(0, .int b0), (1, .int b1), (4, .long v4), (6, .int v6)] → WW_X5_tail p l e s m args below meth c E o res H locs 0 0 (F0 m 27 ls [.long y_4, .long v2]) := by
        intro y_4 σ_5 H locs ls hf I hl
        rw [eJ_3] at hf
        refine lv_ladd hx hb dX5_tail_27 ?_
        refine lv_topl (fun x_6 ex_6 => ?_)
        have hf := lt_at hf ex_6
        refine lv_lstore_n (lv' := [(2, .long x_6), (0, .int b0), (1, .int b1), (4, .long v4), (6, .int v6)]) hx hb dX5_tail_28 rfl hl (by decide) rfl (fun ls hl => ?_)
        refine lv_lload hx hb dX5_tail_29 (lv_at hl 3 rfl) ?_
        refine lv_iload_n hx hb dX5_tail_31 rfl (lv_at hl 1 rfl) ?_
        refine lv_iload hx hb dX5_tail_32 (lv_at hl 4 rfl) ?_
        refine lv_isub hx hb dX5_tail_34 ?_
        refine lv_i2l hx hb dX5_tail_35 rfl ?_
        refine lv_lmul hx hb dX5_tail_36 ?_
        refine lv_iload hx hb dX5_tail_37 (lv_at hl 4 rfl) ?_
        refine lv_iconst (v := (1 : Int32)) hx hb dX5_tail_39 (by decide) ?_
        refine lv_iadd hx hb dX5_tail_40 ?_
        refine lv_i2l hx hb dX5_tail_41 rfl ?_
        obtain ⟨h_9, hf⟩ := ck_some hf
        refine lv_ldiv hx hb dX5_tail_42 (nzl_ne h_9) ?_
        refine lv_topl (fun x_7 ex_7 => ?_)
        have hf := lt_at hf ex_7
        refine lv_lstore (lv' := [(4, .long x_7), (2, .long x_6), (0, .int b0), (1, .int b1), (6, .int v6)]) hx hb dX5_tail_43 hl (by decide) rfl (fun ls hl => ?_)
        obtain ⟨x_8, ex_8⟩ : ∃ y : Int32, y = (v6 + (1 : Int32)) := ⟨_, rfl⟩
        have hf := lt_at hf ex_8
        refine lv_iinc (v := x_8) (lv' := [(6, .int x_8), (4, .long x_7), (2, .long x_6), (0, .int b0), (1, .int b1)]) hx hb dX5_tail_45 hl (k := 4) rfl (by rw [ex_8]; rfl) (by decide) rfl (fun ls hl => ?_)
        refine lv_goto (tgt := 8) hx hb dX5_tail_48 (by decide) ?_
        exact ih x_6 x_7 x_8 σ_5 H locs ls hf I (lv_sub hl [3, 4, 2, 1, 0] rfl)
      refine lv_icmp_lt (tgt := 26) hx hb dX5_tail_18 (by decide) (fun c_2 => ?_) (fun c_2 => ?_)
      · have hf := if_t hf c_2
        refine lv_lconst (v := (0 : Int64)) hx hb dX5_tail_26 (by decide) ?_
        exact hJ_3 _ σ H locs ls hf I (lv_sub hl [0, 1, 3, 4] rfl)
      · have hf := if_f hf c_2
        refine lv_lload hx hb dX5_tail_21 (lv_at hl 3 rfl) ?_
        refine lv_goto (tgt := 27) hx hb dX5_tail_23 (by decide) ?_
        exact hJ_3 _ σ H locs ls hf I (lv_sub hl [0, 1, 3, 4] rfl)
set_option maxHeartbeats 4000000 in
set_option maxRecDepth 100000 in
theorem c_X5_tail (l : Launch) (E : En) (o : Int64) (a0 : Int32) (a1 : Int32) (σ : St) {res : Int64 × St} (hf : f_X5_tail a0 a1 σ = some res) : CL l yX5_tail wsX5_tail rm_X5_tail E [.int a0, .int a1] o σ res.1 res.2 := by
  intro sz
  refine Met.ofW (cc := cX5_tail) (maxL := 7) (ret := (some .long)) (by decide) rfl ?_
  intro p e s m args below meth c s₁ B hml hv
  obtain ⟨rfl, hv⟩ := hv
  obtain ⟨rfl, hK, I⟩ := hv.start
  have C : Cx p c cX5_tail 7 s m _ wsX5_tail RX5 E := ⟨⟨B.exec, B.bytes, hml, findClass_of_methodNamed B.named, atoms_spec (ws := wsX5_tail) B.pre⟩, hK⟩
  have hx := C.1.1
  have hb := C.1.2.1
  have hr := B.returns
  have hlocks := B.notSynchronized
  clear hv
  have hl := lv_entry ([.int a0, .int a1]) (n := 7) (Nat.le_of_ble_eq_true rfl)
  rw [lg_entry_eq]
  generalize (lg_sl ([.int a0, .int a1]) ++ List.replicate (7 - (lg_sl ([.int a0, .int a1])).length) Slot.unset).toArray = ls at hl ⊢
  have hl : lv_has ls 7 [(0, .int a0), (1, .int a1)] := hl
  generalize ([.int a0, .int a1] : List Value).toArray = args at C ⊢
  refine g_begin I (fun H locs I => ?_)
  rw [f_X5_tail] at hf
  refine lv_lconst (v := (0 : Int64)) hx hb dX5_tail_0 (by decide) ?_
  refine lv_lstore_n (lv' := [(2, .long (0 : Int64)), (0, .int a0), (1, .int a1)]) hx hb dX5_tail_1 rfl hl (by decide) rfl (fun ls hl => ?_)
  refine lv_lconst (v := (1 : Int64)) hx hb dX5_tail_2 (by decide) ?_
  refine lv_lstore (lv' := [(4, .long (1 : Int64)), (2, .long (0 : Int64)), (0, .int a0), (1, .int a1)]) hx hb dX5_tail_3 hl (by decide) rfl (fun ls hl => ?_)
  refine lv_iconst (v := (0 : Int32)) hx hb dX5_tail_5 (by decide) ?_
  refine lv_istore (lv' := [(6, .int (0 : Int32)), (4, .long (1 : Int64)), (2, .long (0 : Int64)), (0, .int a0), (1, .int a1)]) hx hb dX5_tail_6 hl (by decide) rfl (fun ls hl => ?_)
  refine lp_X5_tail_8 C hr hlocks a0 a1 _ ?_ _ (0 : Int64) (1 : Int64) (0 : Int32) σ H locs ls hf I (lv_sub hl [3, 4, 2, 1, 0] rfl)
  · intro y_10 σ_11 H locs ls hf I hl
    refine lv_lload_n hx hb dX5_tail_51 rfl (lv_at hl 0 rfl) ?_
    exact g_lret C I hr hlocks hf dX5_tail_52
