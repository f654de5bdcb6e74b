/-! the law's helpers, by wip/gen/lhelp.py -/
abbrev rm_L_station : Room := { frames := 8, cells := 2, slots := 12, locals := 124 }
theorem k_L_station_c13 : Cond.classLink RL 13 "java/lang/IndexOutOfBoundsException" ∈ wsL_station := by decide +kernel
theorem k_L_station_c15 : Cond.classLink RL 15 "java/lang/UnsupportedOperationException" ∈ wsL_station := by decide +kernel
set_option maxHeartbeats 4000000 in
set_option maxRecDepth 100000 in
theorem c_L_station (l : Launch) (hst : l.stackTraces = false) (E : En) (o : Int64) (a1 : Int32) (a2 : Int32) (σ : St) {res : Ex × St} (hf : f_X4_station a1 a2 σ = some res) {k : Int32} {o2 : Int64} (hk : Hk ["java/lang/IndexOutOfBoundsException", "java/lang/UnsupportedOperationException"] res o k o2) : CH l yL_station wsL_station rm_L_station E [.ref (ad E 0), .int a1, .int a2, .ref (ad E 56)] o σ 2 12 k o2 res.2 := by
  intro sz
  refine va_MetW (cc := cL_station) (maxL := 5) (ret := (some .int)) (hh := [(0, 10, 13, 13), (0, 10, 17, 15)]) (by decide) rfl ?_
  intro p e s m args below meth c s₁ B hml hv
  obtain ⟨rfl, ⟨hv, hZ, hN⟩, hNy⟩ := hv
  obtain ⟨rfl, hK, I⟩ := hv.start
  have htab := vx_table (x := yL_station) B (atoms_spec (ws := wsL_station) B.pre _ List.mem_cons_self)
  have C : Cx p c cL_station 5 s m _ wsL_station RL E := ⟨⟨B.exec, B.bytes, hml, findClass_of_methodNamed B.named, atoms_spec (ws := wsL_station) B.pre⟩, hK⟩
  have hx := C.1.1
  have hb := C.1.2.1
  have hr := B.returns
  have hlocks := B.notSynchronized
  clear hv
  have hl := lv_entry ([.ref (ad E 0), .int a1, .int a2, .ref (ad E 56)]) (n := 5) (Nat.le_of_ble_eq_true rfl)
  rw [lg_entry_eq]
  generalize (lg_sl ([.ref (ad E 0), .int a1, .int a2, .ref (ad E 56)]) ++ List.replicate (5 - (lg_sl ([.ref (ad E 0), .int a1, .int a2, .ref (ad E 56)])).length) Slot.unset).toArray = ls at hl ⊢
  have hl : lv_has ls 5 [(0, .ref (ad E 0)), (1, .int a1), (2, .int a2), (3, .ref (ad E 56))] := hl
  generalize ([.ref (ad E 0), .int a1, .int a2, .ref (ad E 56)] : List Value).toArray = args at C ⊢
  refine g_begin I (fun H locs I => ?_)
  refine lv_aload_n hx hb dL_station_0 rfl (lv_at hl 3 rfl) ?_
  refine lv_iconst (v := (0 : Int32)) hx hb dL_station_1 (by decide) ?_
  refine lv_aload_n hx hb dL_station_2 rfl (lv_at hl 0 rfl) ?_
  refine lv_iload_n hx hb dL_station_3 rfl (lv_at hl 1 rfl) ?_
  refine lv_iload_n hx hb dL_station_4 rfl (lv_at hl 2 rfl) ?_
  refine g_tryi (av := [.int a1, .int a2]) (rest := [.int 0, .ref (ad E 56)]) C I hZ hN (c_X4_station l hst E o a1 a2 σ hf) (cwV 2 C.1.2.2.2.2 gL_station_X4_station rfl rfl rfl (by decide +kernel) ⟨Nat.le_of_ble_eq_true rfl, Nat.le_of_ble_eq_true rfl⟩) rfl hl.1 rfl (Nat.le_of_ble_eq_true rfl) ⟨Nat.le_of_ble_eq_true rfl, Nat.le_of_ble_eq_true rfl⟩ dL_station_5 ?_ ?_
  · intro x σ1 ce q9 H locs hres I hce hcv hcl
    rcases hk with ⟨r, h1, -⟩ | ⟨i, x2, h1, h2, hk, ho⟩
    · rw [hres] at h1; cases h1
    have hxe : x = x2 := by rw [hres] at h1; exact Sum.inr.inj h1
    subst hxe
    have hσ : res.2 = σ1 := by rw [hres]
    match i, h2, hk with
    | 0, h2, hk =>
      cases h2
      refine vx_catch (own := RL) (name := "java/lang/IndexOutOfBoundsException") (E := "java/lang/IndexOutOfBoundsException") C.1.2.2.2.1 [] (⟨0, 10, 13, 13⟩ : ExceptionTableEntry) [(⟨0, 10, 17, 15⟩ : ExceptionTableEntry)] htab (fun z hz => absurd hz List.not_mem_nil) rfl (by decide) (C.1.2.2.2.2 _ k_L_station_c13) (va_Nw.use rfl (hN.1 "java/lang/IndexOutOfBoundsException" (by decide))) hce hcv hcl ?_
      show W _ _ _ _ _ _ _ _ _ _ _ _ _ _ _ (F0 m 13 ls [.ref q9])
      refine lv_astore (lv' := [(4, .ref q9), (0, .ref (ad E 0)), (1, .int a1), (2, .int a2), (3, .ref (ad E 56))]) hx hb dL_station_13 hl (by decide) rfl (fun ls hl => ?_)
      refine lv_iconst (v := (1 : Int32)) hx hb dL_station_15 (by decide) ?_
      exact g_hret C I hr hlocks ⟨hk.symm, by rw [ho, hσ]⟩ (Nat.le_of_ble_eq_true rfl) (Nat.le_of_ble_eq_true rfl) dL_station_16
    | 1, h2, hk =>
      cases h2
      refine vx_catch (own := RL) (name := "java/lang/UnsupportedOperationException") (E := "java/lang/UnsupportedOperationException") C.1.2.2.2.1 [(⟨0, 10, 13, 13⟩ : ExceptionTableEntry)] (⟨0, 10, 17, 15⟩ : ExceptionTableEntry) [] htab (List.forall_mem_cons.mpr ⟨Or.inr ⟨by decide, "java/lang/IndexOutOfBoundsException", C.1.2.2.2.2 _ k_L_station_c13, hNy ("java/lang/UnsupportedOperationException", "java/lang/IndexOutOfBoundsException") (by decide)⟩, (fun z hz => absurd hz List.not_mem_nil)⟩) rfl (by decide) (C.1.2.2.2.2 _ k_L_station_c15) (va_Nw.use rfl (hN.1 "java/lang/UnsupportedOperationException" (by decide))) hce hcv hcl ?_
      show W _ _ _ _ _ _ _ _ _ _ _ _ _ _ _ (F0 m 17 ls [.ref q9])
      refine lv_astore (lv' := [(4, .ref q9), (0, .ref (ad E 0)), (1, .int a1), (2, .int a2), (3, .ref (ad E 56))]) hx hb dL_station_17 hl (by decide) rfl (fun ls hl => ?_)
      refine lv_iconst (v := (2 : Int32)) hx hb dL_station_19 (by decide) ?_
      exact g_hret C I hr hlocks ⟨hk.symm, by rw [ho, hσ]⟩ (Nat.le_of_ble_eq_true rfl) (Nat.le_of_ble_eq_true rfl) dL_station_20
    | i + 2, h2, hk => exact absurd h2 (by simp)
  · intro r σ1 H locs hres I
    rcases hk with ⟨r2, h1, hk, ho⟩ | ⟨i, x2, h1, h2, hk, ho⟩
    · have hre : r = r2 := by rw [hres] at h1; exact Sum.inl.inj h1
      subst hre
      have hσ : res.2 = σ1 := by rw [hres]
      refine lv_i2l (v := r.toInt64) hx hb dL_station_8 rfl ?_
      refine g_last C I dL_station_9 (fun H locs I => ?_)
      refine lv_goto (tgt := 21) hx hb dL_station_10 (by decide) ?_
      refine lv_iconst (v := (0 : Int32)) hx hb dL_station_21 (by decide) ?_
      exact g_hret C I hr hlocks ⟨hk.symm, by rw [ho, hσ]⟩ (Nat.le_of_ble_eq_true rfl) (Nat.le_of_ble_eq_true rfl) dL_station_22
    · rw [hres] at h1; cases h1
abbrev rm_L_area : Room := { frames := 8, cells := 2, slots := 12, locals := 125 }
theorem k_L_area_c13 : Cond.classLink RL 13 "java/lang/IndexOutOfBoundsException" ∈ wsL_area := by decide +kernel
theorem k_L_area_c15 : Cond.classLink RL 15 "java/lang/UnsupportedOperationException" ∈ wsL_area := by decide +kernel
set_option maxHeartbeats 4000000 in
set_option maxRecDepth 100000 in
theorem c_L_area (l : Launch) (hst : l.stackTraces = false) (E : En) (o : Int64) (a1 : Int32) (a2 : Int32) (a3 : Int32) (σ : St) {res : Ex × St} (hf : f_X4_area a1 a2 a3 σ = some res) {k : Int32} {o2 : Int64} (hk : Hk ["java/lang/IndexOutOfBoundsException", "java/lang/UnsupportedOperationException"] res o k o2) : CH l yL_area wsL_area rm_L_area E [.ref (ad E 0), .int a1, .int a2, .int a3, .ref (ad E 56)] o σ 2 12 k o2 res.2 := by
  intro sz
  refine va_MetW (cc := cL_area) (maxL := 6) (ret := (some .int)) (hh := [(0, 12, 15, 13), (0, 12, 19, 15)]) (by decide) rfl ?_
  intro p e s m args below meth c s₁ B hml hv
  obtain ⟨rfl, ⟨hv, hZ, hN⟩, hNy⟩ := hv
  obtain ⟨rfl, hK, I⟩ := hv.start
  have htab := vx_table (x := yL_area) B (atoms_spec (ws := wsL_area) B.pre _ List.mem_cons_self)
  have C : Cx p c cL_area 6 s m _ wsL_area RL E := ⟨⟨B.exec, B.bytes, hml, findClass_of_methodNamed B.named, atoms_spec (ws := wsL_area) B.pre⟩, hK⟩
  have hx := C.1.1
  have hb := C.1.2.1
  have hr := B.returns
  have hlocks := B.notSynchronized
  clear hv
  have hl := lv_entry ([.ref (ad E 0), .int a1, .int a2, .int a3, .ref (ad E 56)]) (n := 6) (Nat.le_of_ble_eq_true rfl)
  rw [lg_entry_eq]
  generalize (lg_sl ([.ref (ad E 0), .int a1, .int a2, .int a3, .ref (ad E 56)]) ++ List.replicate (6 - (lg_sl ([.ref (ad E 0), .int a1, .int a2, .int a3, .ref (ad E 56)])).length) Slot.unset).toArray = ls at hl ⊢
  have hl : lv_has ls 6 [(0, .ref (ad E 0)), (1, .int a1), (2, .int a2), (3, .int a3), (4, .ref (ad E 56))] := hl
  generalize ([.ref (ad E 0), .int a1, .int a2, .int a3, .ref (ad E 56)] : List Value).toArray = args at C ⊢
  refine g_begin I (fun H locs I => ?_)
  refine lv_aload hx hb dL_area_0 (lv_at hl 4 rfl) ?_
  refine lv_iconst (v := (0 : Int32)) hx hb dL_area_2 (by decide) ?_
  refine lv_aload_n hx hb dL_area_3 rfl (lv_at hl 0 rfl) ?_
  refine lv_iload_n hx hb dL_area_4 rfl (lv_at hl 1 rfl) ?_
  refine lv_iload_n hx hb dL_area_5 rfl (lv_at hl 2 rfl) ?_
  refine lv_iload_n hx hb dL_area_6 rfl (lv_at hl 3 rfl) ?_
  refine g_tryi (av := [.int a1, .int a2, .int a3]) (rest := [.int 0, .ref (ad E 56)]) C I hZ hN (c_X4_area l hst E o a1 a2 a3 σ hf) (cwV 3 C.1.2.2.2.2 gL_area_X4_area rfl rfl rfl (by decide +kernel) ⟨Nat.le_of_ble_eq_true rfl, Nat.le_of_ble_eq_true rfl⟩) rfl hl.1 rfl (Nat.le_of_ble_eq_true rfl) ⟨Nat.le_of_ble_eq_true rfl, Nat.le_of_ble_eq_true rfl⟩ dL_area_7 ?_ ?_
  · intro x σ1 ce q9 H locs hres I hce hcv hcl
    rcases hk with ⟨r, h1, -⟩ | ⟨i, x2, h1, h2, hk, ho⟩
    · rw [hres] at h1; cases h1
    have hxe : x = x2 := by rw [hres] at h1; exact Sum.inr.inj h1
    subst hxe
    have hσ : res.2 = σ1 := by rw [hres]
    match i, h2, hk with
    | 0, h2, hk =>
      cases h2
      refine vx_catch (own := RL) (name := "java/lang/IndexOutOfBoundsException") (E := "java/lang/IndexOutOfBoundsException") C.1.2.2.2.1 [] (⟨0, 12, 15, 13⟩ : ExceptionTableEntry) [(⟨0, 12, 19, 15⟩ : ExceptionTableEntry)] htab (fun z hz => absurd hz List.not_mem_nil) rfl (by decide) (C.1.2.2.2.2 _ k_L_area_c13) (va_Nw.use rfl (hN.1 "java/lang/IndexOutOfBoundsException" (by decide))) hce hcv hcl ?_
      show W _ _ _ _ _ _ _ _ _ _ _ _ _ _ _ (F0 m 15 ls [.ref q9])
      refine lv_astore (lv' := [(5, .ref q9), (0, .ref (ad E 0)), (1, .int a1), (2, .int a2), (3, .int a3), (4, .ref (ad E 56))]) hx hb dL_area_15 hl (by decide) rfl (fun ls hl => ?_)
      refine lv_iconst (v := (1 : Int32)) hx hb dL_area_17 (by decide) ?_
      exact g_hret C I hr hlocks ⟨hk.symm, by rw [ho, hσ]⟩ (Nat.le_of_ble_eq_true rfl) (Nat.le_of_ble_eq_true rfl) dL_area_18
    | 1, h2, hk =>
      cases h2
      refine vx_catch (own := RL) (name := "java/lang/UnsupportedOperationException") (E := "java/lang/UnsupportedOperationException") C.1.2.2.2.1 [(⟨0, 12, 15, 13⟩ : ExceptionTableEntry)] (⟨0, 12, 19, 15⟩ : ExceptionTableEntry) [] htab (List.forall_mem_cons.mpr ⟨Or.inr ⟨by decide, "java/lang/IndexOutOfBoundsException", C.1.2.2.2.2 _ k_L_area_c13, hNy ("java/lang/UnsupportedOperationException", "java/lang/IndexOutOfBoundsException") (by decide)⟩, (fun z hz => absurd hz List.not_mem_nil)⟩) rfl (by decide) (C.1.2.2.2.2 _ k_L_area_c15) (va_Nw.use rfl (hN.1 "java/lang/UnsupportedOperationException" (by decide))) hce hcv hcl ?_
      show W _ _ _ _ _ _ _ _ _ _ _ _ _ _ _ (F0 m 19 ls [.ref q9])
      refine lv_astore (lv' := [(5, .ref q9), (0, .ref (ad E 0)), (1, .int a1), (2, .int a2), (3, .int a3), (4, .ref (ad E 56))]) hx hb dL_area_19 hl (by decide) rfl (fun ls hl => ?_)
      refine lv_iconst (v := (2 : Int32)) hx hb dL_area_21 (by decide) ?_
      exact g_hret C I hr hlocks ⟨hk.symm, by rw [ho, hσ]⟩ (Nat.le_of_ble_eq_true rfl) (Nat.le_of_ble_eq_true rfl) dL_area_22
    | i + 2, h2, hk => exact absurd h2 (by simp)
  · intro r σ1 H locs hres I
    rcases hk with ⟨r2, h1, hk, ho⟩ | ⟨i, x2, h1, h2, hk, ho⟩
    · have hre : r = r2 := by rw [hres] at h1; exact Sum.inl.inj h1
      subst hre
      have hσ : res.2 = σ1 := by rw [hres]
      refine lv_i2l (v := r.toInt64) hx hb dL_area_10 rfl ?_
      refine g_last C I dL_area_11 (fun H locs I => ?_)
      refine lv_goto (tgt := 23) hx hb dL_area_12 (by decide) ?_
      refine lv_iconst (v := (0 : Int32)) hx hb dL_area_23 (by decide) ?_
      exact g_hret C I hr hlocks ⟨hk.symm, by rw [ho, hσ]⟩ (Nat.le_of_ble_eq_true rfl) (Nat.le_of_ble_eq_true rfl) dL_area_24
    · rw [hres] at h1; cases h1
abbrev rm_L_unit : Room := { frames := 8, cells := 3, slots := 18, locals := 123 }
theorem k_L_unit_c25 : Cond.classLink RL 25 "java/lang/IllegalArgumentException" ∈ wsL_unit := by decide +kernel
theorem k_L_unit_c27 : Cond.classLink RL 27 "java/lang/IllegalStateException" ∈ wsL_unit := by decide +kernel
theorem k_L_unit_c15 : Cond.classLink RL 15 "java/lang/UnsupportedOperationException" ∈ wsL_unit := by decide +kernel
set_option maxHeartbeats 4000000 in
set_option maxRecDepth 100000 in
theorem c_L_unit (l : Launch) (hst : l.stackTraces = false) (E : En) (o : Int64) (a1 : Int32) (σ : St) {res : Ex × St} (hf : f_X4_unit a1 σ = some res) {k : Int32} {o2 : Int64} (hk : Hk ["java/lang/IllegalArgumentException", "java/lang/IllegalStateException", "java/lang/UnsupportedOperationException"] res o k o2) : CH l yL_unit wsL_unit rm_L_unit E [.ref (ad E 0), .int a1, .ref (ad E 56)] o σ 3 18 k o2 res.2 := by
  intro sz
  refine va_MetW (cc := cL_unit) (maxL := 4) (ret := (some .int)) (hh := [(0, 9, 12, 25), (0, 9, 15, 27), (0, 9, 18, 15)]) (by decide) rfl ?_
  intro p e s m args below meth c s₁ B hml hv
  obtain ⟨rfl, ⟨hv, hZ, hN⟩, hNy⟩ := hv
  obtain ⟨rfl, hK, I⟩ := hv.start
  have htab := vx_table (x := yL_unit) B (atoms_spec (ws := wsL_unit) B.pre _ List.mem_cons_self)
  have C : Cx p c cL_unit 4 s m _ wsL_unit RL E := ⟨⟨B.exec, B.bytes, hml, findClass_of_methodNamed B.named, atoms_spec (ws := wsL_unit) B.pre⟩, hK⟩
  have hx := C.1.1
  have hb := C.1.2.1
  have hr := B.returns
  have hlocks := B.notSynchronized
  clear hv
  have hl := lv_entry ([.ref (ad E 0), .int a1, .ref (ad E 56)]) (n := 4) (Nat.le_of_ble_eq_true rfl)
  rw [lg_entry_eq]
  generalize (lg_sl ([.ref (ad E 0), .int a1, .ref (ad E 56)]) ++ List.replicate (4 - (lg_sl ([.ref (ad E 0), .int a1, .ref (ad E 56)])).length) Slot.unset).toArray = ls at hl ⊢
  have hl : lv_has ls 4 [(0, .ref (ad E 0)), (1, .int a1), (2, .ref (ad E 56))] := hl
  generalize ([.ref (ad E 0), .int a1, .ref (ad E 56)] : List Value).toArray = args at C ⊢
  refine g_begin I (fun H locs I => ?_)
  refine lv_aload_n hx hb dL_unit_0 rfl (lv_at hl 2 rfl) ?_
  refine lv_iconst (v := (0 : Int32)) hx hb dL_unit_1 (by decide) ?_
  refine lv_aload_n hx hb dL_unit_2 rfl (lv_at hl 0 rfl) ?_
  refine lv_iload_n hx hb dL_unit_3 rfl (lv_at hl 1 rfl) ?_
  refine g_tryi (av := [.int a1]) (rest := [.int 0, .ref (ad E 56)]) C I hZ hN (c_X4_unit l hst E o a1 σ hf) (cwV 1 C.1.2.2.2.2 gL_unit_X4_unit rfl rfl rfl (by decide +kernel) ⟨Nat.le_of_ble_eq_true rfl, Nat.le_of_ble_eq_true rfl⟩) rfl hl.1 rfl (Nat.le_of_ble_eq_true rfl) ⟨Nat.le_of_ble_eq_true rfl, Nat.le_of_ble_eq_true rfl⟩ dL_unit_4 ?_ ?_
  · intro x σ1 ce q9 H locs hres I hce hcv hcl
    rcases hk with ⟨r, h1, -⟩ | ⟨i, x2, h1, h2, hk, ho⟩
    · rw [hres] at h1; cases h1
    have hxe : x = x2 := by rw [hres] at h1; exact Sum.inr.inj h1
    subst hxe
    have hσ : res.2 = σ1 := by rw [hres]
    match i, h2, hk with
    | 0, h2, hk =>
      cases h2
      refine vx_catch (own := RL) (name := "java/lang/IllegalArgumentException") (E := "java/lang/IllegalArgumentException") C.1.2.2.2.1 [] (⟨0, 9, 12, 25⟩ : ExceptionTableEntry) [(⟨0, 9, 15, 27⟩ : ExceptionTableEntry), (⟨0, 9, 18, 15⟩ : ExceptionTableEntry)] htab (fun z hz => absurd hz List.not_mem_nil) rfl (by decide) (C.1.2.2.2.2 _ k_L_unit_c25) (va_Nw.use rfl (hN.1 "java/lang/IllegalArgumentException" (by decide))) hce hcv hcl ?_
      show W _ _ _ _ _ _ _ _ _ _ _ _ _ _ _ (F0 m 12 ls [.ref q9])
      refine lv_astore_n (lv' := [(3, .ref q9), (0, .ref (ad E 0)), (1, .int a1), (2, .ref (ad E 56))]) hx hb dL_unit_12 rfl hl (by decide) rfl (fun ls hl => ?_)
      refine lv_iconst (v := (1 : Int32)) hx hb dL_unit_13 (by decide) ?_
      exact g_hret C I hr hlocks ⟨hk.symm, by rw [ho, hσ]⟩ (Nat.le_of_ble_eq_true rfl) (Nat.le_of_ble_eq_true rfl) dL_unit_14
    | 1, h2, hk =>
      cases h2
      refine vx_catch (own := RL) (name := "java/lang/IllegalStateException") (E := "java/lang/IllegalStateException") C.1.2.2.2.1 [(⟨0, 9, 12, 25⟩ : ExceptionTableEntry)] (⟨0, 9, 15, 27⟩ : ExceptionTableEntry) [(⟨0, 9, 18, 15⟩ : ExceptionTableEntry)] htab (List.forall_mem_cons.mpr ⟨Or.inr ⟨by decide, "java/lang/IllegalArgumentException", C.1.2.2.2.2 _ k_L_unit_c25, hNy ("java/lang/IllegalStateException", "java/lang/IllegalArgumentException") (by decide)⟩, (fun z hz => absurd hz List.not_mem_nil)⟩) rfl (by decide) (C.1.2.2.2.2 _ k_L_unit_c27) (va_Nw.use rfl (hN.1 "java/lang/IllegalStateException" (by decide))) hce hcv hcl ?_
      show W _ _ _ _ _ _ _ _ _ _ _ _ _ _ _ (F0 m 15 ls [.ref q9])
      refine lv_astore_n (lv' := [(3, .ref q9), (0, .ref (ad E 0)), (1, .int a1), (2, .ref (ad E 56))]) hx hb dL_unit_15 rfl hl (by decide) rfl (fun ls hl => ?_)
      refine lv_iconst (v := (2 : Int32)) hx hb dL_unit_16 (by decide) ?_
      exact g_hret C I hr hlocks ⟨hk.symm, by rw [ho, hσ]⟩ (Nat.le_of_ble_eq_true rfl) (Nat.le_of_ble_eq_true rfl) dL_unit_17
    | 2, h2, hk =>
      cases h2
      refine vx_catch (own := RL) (name := "java/lang/UnsupportedOperationException") (E := "java/lang/UnsupportedOperationException") C.1.2.2.2.1 [(⟨0, 9, 12, 25⟩ : ExceptionTableEntry), (⟨0, 9, 15, 27⟩ : ExceptionTableEntry)] (⟨0, 9, 18, 15⟩ : ExceptionTableEntry) [] htab (List.forall_mem_cons.mpr ⟨Or.inr ⟨by decide, "java/lang/IllegalArgumentException", C.1.2.2.2.2 _ k_L_unit_c25, hNy ("java/lang/UnsupportedOperationException", "java/lang/IllegalArgumentException") (by decide)⟩, (List.forall_mem_cons.mpr ⟨Or.inr ⟨by decide, "java/lang/IllegalStateException", C.1.2.2.2.2 _ k_L_unit_c27, hNy ("java/lang/UnsupportedOperationException", "java/lang/IllegalStateException") (by decide)⟩, (fun z hz => absurd hz List.not_mem_nil)⟩)⟩) rfl (by decide) (C.1.2.2.2.2 _ k_L_unit_c15) (va_Nw.use rfl (hN.1 "java/lang/UnsupportedOperationException" (by decide))) hce hcv hcl ?_
      show W _ _ _ _ _ _ _ _ _ _ _ _ _ _ _ (F0 m 18 ls [.ref q9])
      refine lv_astore_n (lv' := [(3, .ref q9), (0, .ref (ad E 0)), (1, .int a1), (2, .ref (ad E 56))]) hx hb dL_unit_18 rfl hl (by decide) rfl (fun ls hl => ?_)
      refine lv_iconst (v := (3 : Int32)) hx hb dL_unit_19 (by decide) ?_
      exact g_hret C I hr hlocks ⟨hk.symm, by rw [ho, hσ]⟩ (Nat.le_of_ble_eq_true rfl) (Nat.le_of_ble_eq_true rfl) dL_unit_20
    | i + 3, h2, hk => exact absurd h2 (by simp)
  · intro r σ1 H locs hres I
    rcases hk with ⟨r2, h1, hk, ho⟩ | ⟨i, x2, h1, h2, hk, ho⟩
    · have hre : r = r2 := by rw [hres] at h1; exact Sum.inl.inj h1
      subst hre
      have hσ : res.2 = σ1 := by rw [hres]
      refine lv_i2l (v := r.toInt64) hx hb dL_unit_7 rfl ?_
      refine g_last C I dL_unit_8 (fun H locs I => ?_)
      refine lv_goto (tgt := 21) hx hb dL_unit_9 (by decide) ?_
      refine lv_iconst (v := (0 : Int32)) hx hb dL_unit_21 (by decide) ?_
      exact g_hret C I hr hlocks ⟨hk.symm, by rw [ho, hσ]⟩ (Nat.le_of_ble_eq_true rfl) (Nat.le_of_ble_eq_true rfl) dL_unit_22
    · rw [hres] at h1; cases h1
abbrev rm_L_change : Room := { frames := 8, cells := 3, slots := 18, locals := 125 }
theorem k_L_change_c25 : Cond.classLink RL 25 "java/lang/IllegalArgumentException" ∈ wsL_change := by decide +kernel
theorem k_L_change_c27 : Cond.classLink RL 27 "java/lang/IllegalStateException" ∈ wsL_change := by decide +kernel
set_option maxHeartbeats 4000000 in
set_option maxRecDepth 100000 in
theorem c_L_change (l : Launch) (hst : l.stackTraces = false) (E : En) (o : Int64) (a1 : Int32) (a2 : Int32) (a3 : Int32) (σ : St) {res : Ex × St} (hf : f_X4_change a1 a2 a3 σ = some res) {k : Int32} {o2 : Int64} (hk : HkV ["java/lang/IllegalArgumentException", "java/lang/IllegalStateException"] res o k o2) : CH l yL_change wsL_change rm_L_change E [.ref (ad E 0), .int a1, .int a2, .int a3] o σ 3 18 k o2 res.2 := by
  intro sz
  refine va_MetW (cc := cL_change) (maxL := 5) (ret := (some .int)) (hh := [(0, 7, 10, 25), (0, 7, 14, 27)]) (by decide) rfl ?_
  intro p e s m args below meth c s₁ B hml hv
  obtain ⟨rfl, ⟨hv, hZ, hN⟩, hNy⟩ := hv
  obtain ⟨rfl, hK, I⟩ := hv.start
  have htab := vx_table (x := yL_change) B (atoms_spec (ws := wsL_change) B.pre _ List.mem_cons_self)
  have C : Cx p c cL_change 5 s m _ wsL_change RL E := ⟨⟨B.exec, B.bytes, hml, findClass_of_methodNamed B.named, atoms_spec (ws := wsL_change) B.pre⟩, hK⟩
  have hx := C.1.1
  have hb := C.1.2.1
  have hr := B.returns
  have hlocks := B.notSynchronized
  clear hv
  have hl := lv_entry ([.ref (ad E 0), .int a1, .int a2, .int a3]) (n := 5) (Nat.le_of_ble_eq_true rfl)
  rw [lg_entry_eq]
  generalize (lg_sl ([.ref (ad E 0), .int a1, .int a2, .int a3]) ++ List.replicate (5 - (lg_sl ([.ref (ad E 0), .int a1, .int a2, .int a3])).length) Slot.unset).toArray = ls at hl ⊢
  have hl : lv_has ls 5 [(0, .ref (ad E 0)), (1, .int a1), (2, .int a2), (3, .int a3)] := hl
  generalize ([.ref (ad E 0), .int a1, .int a2, .int a3] : List Value).toArray = args at C ⊢
  refine g_begin I (fun H locs I => ?_)
  refine lv_aload_n hx hb dL_change_0 rfl (lv_at hl 0 rfl) ?_
  refine lv_iload_n hx hb dL_change_1 rfl (lv_at hl 1 rfl) ?_
  refine lv_iload_n hx hb dL_change_2 rfl (lv_at hl 2 rfl) ?_
  refine lv_iload_n hx hb dL_change_3 rfl (lv_at hl 3 rfl) ?_
  refine g_tryv (av := [.int a1, .int a2, .int a3]) (rest := []) C I hZ hN (c_X4_change l hst E o a1 a2 a3 σ hf) (cwV 3 C.1.2.2.2.2 gL_change_X4_change rfl rfl rfl (by decide +kernel) ⟨Nat.le_of_ble_eq_true rfl, Nat.le_of_ble_eq_true rfl⟩) rfl hl.1 rfl (Nat.le_of_ble_eq_true rfl) ⟨Nat.le_of_ble_eq_true rfl, Nat.le_of_ble_eq_true rfl⟩ dL_change_4 ?_ ?_
  · intro x σ1 ce q9 H locs hres I hce hcv hcl
    rcases hk with ⟨r, h1, -⟩ | ⟨i, x2, h1, h2, hk, ho⟩
    · rw [hres] at h1; cases h1
    have hxe : x = x2 := by rw [hres] at h1; exact Sum.inr.inj h1
    subst hxe
    have hσ : res.2 = σ1 := by rw [hres]
    match i, h2, hk with
    | 0, h2, hk =>
      cases h2
      refine vx_catch (own := RL) (name := "java/lang/IllegalArgumentException") (E := "java/lang/IllegalArgumentException") C.1.2.2.2.1 [] (⟨0, 7, 10, 25⟩ : ExceptionTableEntry) [(⟨0, 7, 14, 27⟩ : ExceptionTableEntry)] htab (fun z hz => absurd hz List.not_mem_nil) rfl (by decide) (C.1.2.2.2.2 _ k_L_change_c25) (va_Nw.use rfl (hN.1 "java/lang/IllegalArgumentException" (by decide))) hce hcv hcl ?_
      show W _ _ _ _ _ _ _ _ _ _ _ _ _ _ _ (F0 m 10 ls [.ref q9])
      refine lv_astore (lv' := [(4, .ref q9), (0, .ref (ad E 0)), (1, .int a1), (2, .int a2), (3, .int a3)]) hx hb dL_change_10 hl (by decide) rfl (fun ls hl => ?_)
      refine lv_iconst (v := (1 : Int32)) hx hb dL_change_12 (by decide) ?_
      exact g_hret C I hr hlocks ⟨hk.symm, by rw [ho, hσ]⟩ (Nat.le_of_ble_eq_true rfl) (Nat.le_of_ble_eq_true rfl) dL_change_13
    | 1, h2, hk =>
      cases h2
      refine vx_catch (own := RL) (name := "java/lang/IllegalStateException") (E := "java/lang/IllegalStateException") C.1.2.2.2.1 [(⟨0, 7, 10, 25⟩ : ExceptionTableEntry)] (⟨0, 7, 14, 27⟩ : ExceptionTableEntry) [] htab (List.forall_mem_cons.mpr ⟨Or.inr ⟨by decide, "java/lang/IllegalArgumentException", C.1.2.2.2.2 _ k_L_change_c25, hNy ("java/lang/IllegalStateException", "java/lang/IllegalArgumentException") (by decide)⟩, (fun z hz => absurd hz List.not_mem_nil)⟩) rfl (by decide) (C.1.2.2.2.2 _ k_L_change_c27) (va_Nw.use rfl (hN.1 "java/lang/IllegalStateException" (by decide))) hce hcv hcl ?_
      show W _ _ _ _ _ _ _ _ _ _ _ _ _ _ _ (F0 m 14 ls [.ref q9])
      refine lv_astore (lv' := [(4, .ref q9), (0, .ref (ad E 0)), (1, .int a1), (2, .int a2), (3, .int a3)]) hx hb dL_change_14 hl (by decide) rfl (fun ls hl => ?_)
      refine lv_iconst (v := (2 : Int32)) hx hb dL_change_16 (by decide) ?_
      exact g_hret C I hr hlocks ⟨hk.symm, by rw [ho, hσ]⟩ (Nat.le_of_ble_eq_true rfl) (Nat.le_of_ble_eq_true rfl) dL_change_17
    | i + 2, h2, hk => exact absurd h2 (by simp)
  · intro r σ1 H locs hres I
    rcases hk with ⟨r2, h1, hk, ho⟩ | ⟨i, x2, h1, h2, hk, ho⟩
    · have hre : r = r2 := by rw [hres] at h1; exact Sum.inl.inj h1
      subst hre
      have hσ : res.2 = σ1 := by rw [hres]
      refine lv_goto (tgt := 18) hx hb dL_change_7 (by decide) ?_
      refine lv_iconst (v := (0 : Int32)) hx hb dL_change_18 (by decide) ?_
      exact g_hret C I hr hlocks ⟨hk.symm, by rw [ho, hσ]⟩ (Nat.le_of_ble_eq_true rfl) (Nat.le_of_ble_eq_true rfl) dL_change_19
    · rw [hres] at h1; cases h1
abbrev rm_L_rules : Room := { frames := 8, cells := 1, slots := 6, locals := 124 }
theorem k_L_rules_c13 : Cond.classLink RL 13 "java/lang/IndexOutOfBoundsException" ∈ wsL_rules := by decide +kernel
set_option maxHeartbeats 4000000 in
set_option maxRecDepth 100000 in
theorem c_L_rules (l : Launch) (hst : l.stackTraces = false) (E : En) (o : Int64) (a1 : Int32) (a2 : Int32) (σ : St) {res : Ex × St} (hf : f_X4_rules a1 a2 σ = some res) {k : Int32} {o2 : Int64} (hk : HkV ["java/lang/IndexOutOfBoundsException"] res o k o2) : CH l yL_rules wsL_rules rm_L_rules E [.ref (ad E 0), .int a1, .int a2] o σ 1 6 k o2 res.2 := by
  intro sz
  refine va_MetW (cc := cL_rules) (maxL := 4) (ret := (some .int)) (hh := [(0, 6, 9, 13)]) (by decide) rfl ?_
  intro p e s m args below meth c s₁ B hml hv
  obtain ⟨rfl, ⟨hv, hZ, hN⟩, hNy⟩ := hv
  obtain ⟨rfl, hK, I⟩ := hv.start
  have htab := vx_table (x := yL_rules) B (atoms_spec (ws := wsL_rules) B.pre _ List.mem_cons_self)
  have C : Cx p c cL_rules 4 s m _ wsL_rules RL E := ⟨⟨B.exec, B.bytes, hml, findClass_of_methodNamed B.named, atoms_spec (ws := wsL_rules) B.pre⟩, hK⟩
  have hx := C.1.1
  have hb := C.1.2.1
  have hr := B.returns
  have hlocks := B.notSynchronized
  clear hv
  have hl := lv_entry ([.ref (ad E 0), .int a1, .int a2]) (n := 4) (Nat.le_of_ble_eq_true rfl)
  rw [lg_entry_eq]
  generalize (lg_sl ([.ref (ad E 0), .int a1, .int a2]) ++ List.replicate (4 - (lg_sl ([.ref (ad E 0), .int a1, .int a2])).length) Slot.unset).toArray = ls at hl ⊢
  have hl : lv_has ls 4 [(0, .ref (ad E 0)), (1, .int a1), (2, .int a2)] := hl
  generalize ([.ref (ad E 0), .int a1, .int a2] : List Value).toArray = args at C ⊢
  refine g_begin I (fun H locs I => ?_)
  refine lv_aload_n hx hb dL_rules_0 rfl (lv_at hl 0 rfl) ?_
  refine lv_iload_n hx hb dL_rules_1 rfl (lv_at hl 1 rfl) ?_
  refine lv_iload_n hx hb dL_rules_2 rfl (lv_at hl 2 rfl) ?_
  refine g_tryv (av := [.int a1, .int a2]) (rest := []) C I hZ hN (c_X4_rules l hst E o a1 a2 σ hf) (cwV 2 C.1.2.2.2.2 gL_rules_X4_rules rfl rfl rfl (by decide +kernel) ⟨Nat.le_of_ble_eq_true rfl, Nat.le_of_ble_eq_true rfl⟩) rfl hl.1 rfl (Nat.le_of_ble_eq_true rfl) ⟨Nat.le_of_ble_eq_true rfl, Nat.le_of_ble_eq_true rfl⟩ dL_rules_3 ?_ ?_
  · intro x σ1 ce q9 H locs hres I hce hcv hcl
    rcases hk with ⟨r, h1, -⟩ | ⟨i, x2, h1, h2, hk, ho⟩
    · rw [hres] at h1; cases h1
    have hxe : x = x2 := by rw [hres] at h1; exact Sum.inr.inj h1
    subst hxe
    have hσ : res.2 = σ1 := by rw [hres]
    match i, h2, hk with
    | 0, h2, hk =>
      cases h2
      refine vx_catch (own := RL) (name := "java/lang/IndexOutOfBoundsException") (E := "java/lang/IndexOutOfBoundsException") C.1.2.2.2.1 [] (⟨0, 6, 9, 13⟩ : ExceptionTableEntry) [] htab (fun z hz => absurd hz List.not_mem_nil) rfl (by decide) (C.1.2.2.2.2 _ k_L_rules_c13) (va_Nw.use rfl (hN.1 "java/lang/IndexOutOfBoundsException" (by decide))) hce hcv hcl ?_
      show W _ _ _ _ _ _ _ _ _ _ _ _ _ _ _ (F0 m 9 ls [.ref q9])
      refine lv_astore_n (lv' := [(3, .ref q9), (0, .ref (ad E 0)), (1, .int a1), (2, .int a2)]) hx hb dL_rules_9 rfl hl (by decide) rfl (fun ls hl => ?_)
      refine lv_iconst (v := (1 : Int32)) hx hb dL_rules_10 (by decide) ?_
      exact g_hret C I hr hlocks ⟨hk.symm, by rw [ho, hσ]⟩ (Nat.le_of_ble_eq_true rfl) (Nat.le_of_ble_eq_true rfl) dL_rules_11
    | i + 1, h2, hk => exact absurd h2 (by simp)
  · intro r σ1 H locs hres I
    rcases hk with ⟨r2, h1, hk, ho⟩ | ⟨i, x2, h1, h2, hk, ho⟩
    · have hre : r = r2 := by rw [hres] at h1; exact Sum.inl.inj h1
      subst hre
      have hσ : res.2 = σ1 := by rw [hres]
      refine lv_goto (tgt := 12) hx hb dL_rules_6 (by decide) ?_
      refine lv_iconst (v := (0 : Int32)) hx hb dL_rules_12 (by decide) ?_
      exact g_hret C I hr hlocks ⟨hk.symm, by rw [ho, hσ]⟩ (Nat.le_of_ble_eq_true rfl) (Nat.le_of_ble_eq_true rfl) dL_rules_13
    · rw [hres] at h1; cases h1
abbrev rm_L_run : Room := { frames := 8, cells := 3, slots := 18, locals := 142 }
theorem k_L_run_c25 : Cond.classLink RL 25 "java/lang/IllegalArgumentException" ∈ wsL_run := by decide +kernel
theorem k_L_run_c13 : Cond.classLink RL 13 "java/lang/IndexOutOfBoundsException" ∈ wsL_run := by decide +kernel
theorem k_L_run_c27 : Cond.classLink RL 27 "java/lang/IllegalStateException" ∈ wsL_run := by decide +kernel
set_option maxHeartbeats 4000000 in
set_option maxRecDepth 100000 in
theorem c_L_run (l : Launch) (hst : l.stackTraces = false) (E : En) (o : Int64) (a1 : Int32) (a2 : Int32) (a3 : Int32) (a4 : Int32) (σ : St) {res : Ex × St} (hf : f_X4_run a1 a2 a3 a4 σ = some res) {k : Int32} {o2 : Int64} (hk : Hk ["java/lang/IllegalArgumentException", "java/lang/IndexOutOfBoundsException", "java/lang/IllegalStateException"] res o k o2) : CH l yL_run wsL_run rm_L_run E [.ref (ad E 0), .int a1, .int a2, .int a3, .int a4, .ref (ad E 56)] o σ 3 18 k o2 res.2 := by
  intro sz
  refine va_MetW (cc := cL_run) (maxL := 7) (ret := (some .int)) (hh := [(0, 14, 17, 25), (0, 14, 21, 13), (0, 14, 25, 27)]) (by decide) rfl ?_
  intro p e s m args below meth c s₁ B hml hv
  obtain ⟨rfl, ⟨hv, hZ, hN⟩, hNy⟩ := hv
  obtain ⟨rfl, hK, I⟩ := hv.start
  have htab := vx_table (x := yL_run) B (atoms_spec (ws := wsL_run) B.pre _ List.mem_cons_self)
  have C : Cx p c cL_run 7 s m _ wsL_run RL E := ⟨⟨B.exec, B.bytes, hml, findClass_of_methodNamed B.named, atoms_spec (ws := wsL_run) B.pre⟩, hK⟩
  have hx := C.1.1
  have hb := C.1.2.1
  have hr := B.returns
  have hlocks := B.notSynchronized
  clear hv
  have hl := lv_entry ([.ref (ad E 0), .int a1, .int a2, .int a3, .int a4, .ref (ad E 56)]) (n := 7) (Nat.le_of_ble_eq_true rfl)
  rw [lg_entry_eq]
  generalize (lg_sl ([.ref (ad E 0), .int a1, .int a2, .int a3, .int a4, .ref (ad E 56)]) ++ List.replicate (7 - (lg_sl ([.ref (ad E 0), .int a1, .int a2, .int a3, .int a4, .ref (ad E 56)])).length) Slot.unset).toArray = ls at hl ⊢
  have hl : lv_has ls 7 [(0, .ref (ad E 0)), (1, .int a1), (2, .int a2), (3, .int a3), (4, .int a4), (5, .ref (ad E 56))] := hl
  generalize ([.ref (ad E 0), .int a1, .int a2, .int a3, .int a4, .ref (ad E 56)] : List Value).toArray = args at C ⊢
  refine g_begin I (fun H locs I => ?_)
  refine lv_aload hx hb dL_run_0 (lv_at hl 5 rfl) ?_
  refine lv_iconst (v := (0 : Int32)) hx hb dL_run_2 (by decide) ?_
  refine lv_aload_n hx hb dL_run_3 rfl (lv_at hl 0 rfl) ?_
  refine lv_iload_n hx hb dL_run_4 rfl (lv_at hl 1 rfl) ?_
  refine lv_iload_n hx hb dL_run_5 rfl (lv_at hl 2 rfl) ?_
  refine lv_iload_n hx hb dL_run_6 rfl (lv_at hl 3 rfl) ?_
  refine lv_iload hx hb dL_run_7 (lv_at hl 4 rfl) ?_
  refine g_tryi (av := [.int a1, .int a2, .int a3, .int a4]) (rest := [.int 0, .ref (ad E 56)]) C I hZ hN (c_X4_run l hst E o a1 a2 a3 a4 σ hf) (cwV 4 C.1.2.2.2.2 gL_run_X4_run rfl rfl rfl (by decide +kernel) ⟨Nat.le_of_ble_eq_true rfl, Nat.le_of_ble_eq_true rfl⟩) rfl hl.1 rfl (Nat.le_of_ble_eq_true rfl) ⟨Nat.le_of_ble_eq_true rfl, Nat.le_of_ble_eq_true rfl⟩ dL_run_9 ?_ ?_
  · intro x σ1 ce q9 H locs hres I hce hcv hcl
    rcases hk with ⟨r, h1, -⟩ | ⟨i, x2, h1, h2, hk, ho⟩
    · rw [hres] at h1; cases h1
    have hxe : x = x2 := by rw [hres] at h1; exact Sum.inr.inj h1
    subst hxe
    have hσ : res.2 = σ1 := by rw [hres]
    match i, h2, hk with
    | 0, h2, hk =>
      cases h2
      refine vx_catch (own := RL) (name := "java/lang/IllegalArgumentException") (E := "java/lang/IllegalArgumentException") C.1.2.2.2.1 [] (⟨0, 14, 17, 25⟩ : ExceptionTableEntry) [(⟨0, 14, 21, 13⟩ : ExceptionTableEntry), (⟨0, 14, 25, 27⟩ : ExceptionTableEntry)] htab (fun z hz => absurd hz List.not_mem_nil) rfl (by decide) (C.1.2.2.2.2 _ k_L_run_c25) (va_Nw.use rfl (hN.1 "java/lang/IllegalArgumentException" (by decide))) hce hcv hcl ?_
      show W _ _ _ _ _ _ _ _ _ _ _ _ _ _ _ (F0 m 17 ls [.ref q9])
      refine lv_astore (lv' := [(6, .ref q9), (0, .ref (ad E 0)), (1, .int a1), (2, .int a2), (3, .int a3), (4, .int a4), (5, .ref (ad E 56))]) hx hb dL_run_17 hl (by decide) rfl (fun ls hl => ?_)
      refine lv_iconst (v := (1 : Int32)) hx hb dL_run_19 (by decide) ?_
      exact g_hret C I hr hlocks ⟨hk.symm, by rw [ho, hσ]⟩ (Nat.le_of_ble_eq_true rfl) (Nat.le_of_ble_eq_true rfl) dL_run_20
    | 1, h2, hk =>
      cases h2
      refine vx_catch (own := RL) (name := "java/lang/IndexOutOfBoundsException") (E := "java/lang/IndexOutOfBoundsException") C.1.2.2.2.1 [(⟨0, 14, 17, 25⟩ : ExceptionTableEntry)] (⟨0, 14, 21, 13⟩ : ExceptionTableEntry) [(⟨0, 14, 25, 27⟩ : ExceptionTableEntry)] htab (List.forall_mem_cons.mpr ⟨Or.inr ⟨by decide, "java/lang/IllegalArgumentException", C.1.2.2.2.2 _ k_L_run_c25, hNy ("java/lang/IndexOutOfBoundsException", "java/lang/IllegalArgumentException") (by decide)⟩, (fun z hz => absurd hz List.not_mem_nil)⟩) rfl (by decide) (C.1.2.2.2.2 _ k_L_run_c13) (va_Nw.use rfl (hN.1 "java/lang/IndexOutOfBoundsException" (by decide))) hce hcv hcl ?_
      show W _ _ _ _ _ _ _ _ _ _ _ _ _ _ _ (F0 m 21 ls [.ref q9])
      refine lv_astore (lv' := [(6, .ref q9), (0, .ref (ad E 0)), (1, .int a1), (2, .int a2), (3, .int a3), (4, .int a4), (5, .ref (ad E 56))]) hx hb dL_run_21 hl (by decide) rfl (fun ls hl => ?_)
      refine lv_iconst (v := (2 : Int32)) hx hb dL_run_23 (by decide) ?_
      exact g_hret C I hr hlocks ⟨hk.symm, by rw [ho, hσ]⟩ (Nat.le_of_ble_eq_true rfl) (Nat.le_of_ble_eq_true rfl) dL_run_24
    | 2, h2, hk =>
      cases h2
      refine vx_catch (own := RL) (name := "java/lang/IllegalStateException") (E := "java/lang/IllegalStateException") C.1.2.2.2.1 [(⟨0, 14, 17, 25⟩ : ExceptionTableEntry), (⟨0, 14, 21, 13⟩ : ExceptionTableEntry)] (⟨0, 14, 25, 27⟩ : ExceptionTableEntry) [] htab (List.forall_mem_cons.mpr ⟨Or.inr ⟨by decide, "java/lang/IllegalArgumentException", C.1.2.2.2.2 _ k_L_run_c25, hNy ("java/lang/IllegalStateException", "java/lang/IllegalArgumentException") (by decide)⟩, (List.forall_mem_cons.mpr ⟨Or.inr ⟨by decide, "java/lang/IndexOutOfBoundsException", C.1.2.2.2.2 _ k_L_run_c13, hNy ("java/lang/IllegalStateException", "java/lang/IndexOutOfBoundsException") (by decide)⟩, (fun z hz => absurd hz List.not_mem_nil)⟩)⟩) rfl (by decide) (C.1.2.2.2.2 _ k_L_run_c27) (va_Nw.use rfl (hN.1 "java/lang/IllegalStateException" (by decide))) hce hcv hcl ?_
      show W _ _ _ _ _ _ _ _ _ _ _ _ _ _ _ (F0 m 25 ls [.ref q9])
      refine lv_astore (lv' := [(6, .ref q9), (0, .ref (ad E 0)), (1, .int a1), (2, .int a2), (3, .int a3), (4, .int a4), (5, .ref (ad E 56))]) hx hb dL_run_25 hl (by decide) rfl (fun ls hl => ?_)
      refine lv_iconst (v := (3 : Int32)) hx hb dL_run_27 (by decide) ?_
      exact g_hret C I hr hlocks ⟨hk.symm, by rw [ho, hσ]⟩ (Nat.le_of_ble_eq_true rfl) (Nat.le_of_ble_eq_true rfl) dL_run_28
    | i + 3, h2, hk => exact absurd h2 (by simp)
  · intro r σ1 H locs hres I
    rcases hk with ⟨r2, h1, hk, ho⟩ | ⟨i, x2, h1, h2, hk, ho⟩
    · have hre : r = r2 := by rw [hres] at h1; exact Sum.inl.inj h1
      subst hre
      have hσ : res.2 = σ1 := by rw [hres]
      refine lv_i2l (v := r.toInt64) hx hb dL_run_12 rfl ?_
      refine g_last C I dL_run_13 (fun H locs I => ?_)
      refine lv_goto (tgt := 29) hx hb dL_run_14 (by decide) ?_
      refine lv_iconst (v := (0 : Int32)) hx hb dL_run_29 (by decide) ?_
      exact g_hret C I hr hlocks ⟨hk.symm, by rw [ho, hσ]⟩ (Nat.le_of_ble_eq_true rfl) (Nat.le_of_ble_eq_true rfl) dL_run_30
    · rw [hres] at h1; cases h1
abbrev rm_L_call : Room := { frames := 8, cells := 2, slots := 12, locals := 125 }
theorem k_L_call_c25 : Cond.classLink RL 25 "java/lang/IllegalArgumentException" ∈ wsL_call := by decide +kernel
set_option maxHeartbeats 4000000 in
set_option maxRecDepth 100000 in
theorem c_L_call (l : Launch) (hst : l.stackTraces = false) (E : En) (o : Int64) (a1 : Int32) (a2 : Int32) (σ : St) {res : Ex × St} (hf : f_X4_call a1 a2 σ = some res) {k : Int32} {o2 : Int64} (hk : Hk ["java/lang/IllegalArgumentException"] res o k o2) : CH l yL_call wsL_call rm_L_call E [.ref (ad E 0), .int a1, .int a2, .ref (ad E 56)] o σ 2 12 k o2 res.2 := by
  intro sz
  refine va_MetW (cc := cL_call) (maxL := 5) (ret := (some .int)) (hh := [(0, 10, 13, 25)]) (by decide) rfl ?_
  intro p e s m args below meth c s₁ B hml hv
  obtain ⟨rfl, ⟨hv, hZ, hN⟩, hNy⟩ := hv
  obtain ⟨rfl, hK, I⟩ := hv.start
  have htab := vx_table (x := yL_call) B (atoms_spec (ws := wsL_call) B.pre _ List.mem_cons_self)
  have C : Cx p c cL_call 5 s m _ wsL_call RL E := ⟨⟨B.exec, B.bytes, hml, findClass_of_methodNamed B.named, atoms_spec (ws := wsL_call) B.pre⟩, hK⟩
  have hx := C.1.1
  have hb := C.1.2.1
  have hr := B.returns
  have hlocks := B.notSynchronized
  clear hv
  have hl := lv_entry ([.ref (ad E 0), .int a1, .int a2, .ref (ad E 56)]) (n := 5) (Nat.le_of_ble_eq_true rfl)
  rw [lg_entry_eq]
  generalize (lg_sl ([.ref (ad E 0), .int a1, .int a2, .ref (ad E 56)]) ++ List.replicate (5 - (lg_sl ([.ref (ad E 0), .int a1, .int a2, .ref (ad E 56)])).length) Slot.unset).toArray = ls at hl ⊢
  have hl : lv_has ls 5 [(0, .ref (ad E 0)), (1, .int a1), (2, .int a2), (3, .ref (ad E 56))] := hl
  generalize ([.ref (ad E 0), .int a1, .int a2, .ref (ad E 56)] : List Value).toArray = args at C ⊢
  refine g_begin I (fun H locs I => ?_)
  refine lv_aload_n hx hb dL_call_0 rfl (lv_at hl 3 rfl) ?_
  refine lv_iconst (v := (0 : Int32)) hx hb dL_call_1 (by decide) ?_
  refine lv_aload_n hx hb dL_call_2 rfl (lv_at hl 0 rfl) ?_
  refine lv_iload_n hx hb dL_call_3 rfl (lv_at hl 1 rfl) ?_
  refine lv_iload_n hx hb dL_call_4 rfl (lv_at hl 2 rfl) ?_
  refine g_tryi (av := [.int a1, .int a2]) (rest := [.int 0, .ref (ad E 56)]) C I hZ hN (c_X4_call l hst E o a1 a2 σ hf) (cwV 2 C.1.2.2.2.2 gL_call_X4_call rfl rfl rfl (by decide +kernel) ⟨Nat.le_of_ble_eq_true rfl, Nat.le_of_ble_eq_true rfl⟩) rfl hl.1 rfl (Nat.le_of_ble_eq_true rfl) ⟨Nat.le_of_ble_eq_true rfl, Nat.le_of_ble_eq_true rfl⟩ dL_call_5 ?_ ?_
  · intro x σ1 ce q9 H locs hres I hce hcv hcl
    rcases hk with ⟨r, h1, -⟩ | ⟨i, x2, h1, h2, hk, ho⟩
    · rw [hres] at h1; cases h1
    have hxe : x = x2 := by rw [hres] at h1; exact Sum.inr.inj h1
    subst hxe
    have hσ : res.2 = σ1 := by rw [hres]
    match i, h2, hk with
    | 0, h2, hk =>
      cases h2
      refine vx_catch (own := RL) (name := "java/lang/IllegalArgumentException") (E := "java/lang/IllegalArgumentException") C.1.2.2.2.1 [] (⟨0, 10, 13, 25⟩ : ExceptionTableEntry) [] htab (fun z hz => absurd hz List.not_mem_nil) rfl (by decide) (C.1.2.2.2.2 _ k_L_call_c25) (va_Nw.use rfl (hN.1 "java/lang/IllegalArgumentException" (by decide))) hce hcv hcl ?_
      show W _ _ _ _ _ _ _ _ _ _ _ _ _ _ _ (F0 m 13 ls [.ref q9])
      refine lv_astore (lv' := [(4, .ref q9), (0, .ref (ad E 0)), (1, .int a1), (2, .int a2), (3, .ref (ad E 56))]) hx hb dL_call_13 hl (by decide) rfl (fun ls hl => ?_)
      refine lv_iconst (v := (1 : Int32)) hx hb dL_call_15 (by decide) ?_
      exact g_hret C I hr hlocks ⟨hk.symm, by rw [ho, hσ]⟩ (Nat.le_of_ble_eq_true rfl) (Nat.le_of_ble_eq_true rfl) dL_call_16
    | i + 1, h2, hk => exact absurd h2 (by simp)
  · intro r σ1 H locs hres I
    rcases hk with ⟨r2, h1, hk, ho⟩ | ⟨i, x2, h1, h2, hk, ho⟩
    · have hre : r = r2 := by rw [hres] at h1; exact Sum.inl.inj h1
      subst hre
      have hσ : res.2 = σ1 := by rw [hres]
      refine lv_i2l (v := r.toInt64) hx hb dL_call_8 rfl ?_
      refine g_last C I dL_call_9 (fun H locs I => ?_)
      refine lv_goto (tgt := 17) hx hb dL_call_10 (by decide) ?_
      refine lv_iconst (v := (0 : Int32)) hx hb dL_call_17 (by decide) ?_
      exact g_hret C I hr hlocks ⟨hk.symm, by rw [ho, hσ]⟩ (Nat.le_of_ble_eq_true rfl) (Nat.le_of_ble_eq_true rfl) dL_call_18
    · rw [hres] at h1; cases h1
abbrev rm_L_share : Room := { frames := 8, cells := 2, slots := 12, locals := 124 }
theorem k_L_share_c25 : Cond.classLink RL 25 "java/lang/IllegalArgumentException" ∈ wsL_share := by decide +kernel
theorem k_L_share_c47 : Cond.classLink RL 47 "java/lang/ArithmeticException" ∈ wsL_share := by decide +kernel
set_option maxHeartbeats 4000000 in
set_option maxRecDepth 100000 in
theorem c_L_share (l : Launch) (hst : l.stackTraces = false) (E : En) (o : Int64) (a1 : Int32) (σ : St) {res : Ex × St} (hf : f_X4_share a1 σ = some res) {k : Int32} {o2 : Int64} (hk : Hk ["java/lang/IllegalArgumentException", "java/lang/ArithmeticException"] res o k o2) : CH l yL_share wsL_share rm_L_share E [.ref (ad E 0), .int a1, .ref (ad E 56)] o σ 2 12 k o2 res.2 := by
  intro sz
  refine va_MetW (cc := cL_share) (maxL := 4) (ret := (some .int)) (hh := [(0, 9, 12, 25), (0, 9, 15, 47)]) (by decide) rfl ?_
  intro p e s m args below meth c s₁ B hml hv
  obtain ⟨rfl, ⟨hv, hZ, hN⟩, hNy⟩ := hv
  obtain ⟨rfl, hK, I⟩ := hv.start
  have htab := vx_table (x := yL_share) B (atoms_spec (ws := wsL_share) B.pre _ List.mem_cons_self)
  have C : Cx p c cL_share 4 s m _ wsL_share RL E := ⟨⟨B.exec, B.bytes, hml, findClass_of_methodNamed B.named, atoms_spec (ws := wsL_share) B.pre⟩, hK⟩
  have hx := C.1.1
  have hb := C.1.2.1
  have hr := B.returns
  have hlocks := B.notSynchronized
  clear hv
  have hl := lv_entry ([.ref (ad E 0), .int a1, .ref (ad E 56)]) (n := 4) (Nat.le_of_ble_eq_true rfl)
  rw [lg_entry_eq]
  generalize (lg_sl ([.ref (ad E 0), .int a1, .ref (ad E 56)]) ++ List.replicate (4 - (lg_sl ([.ref (ad E 0), .int a1, .ref (ad E 56)])).length) Slot.unset).toArray = ls at hl ⊢
  have hl : lv_has ls 4 [(0, .ref (ad E 0)), (1, .int a1), (2, .ref (ad E 56))] := hl
  generalize ([.ref (ad E 0), .int a1, .ref (ad E 56)] : List Value).toArray = args at C ⊢
  refine g_begin I (fun H locs I => ?_)
  refine lv_aload_n hx hb dL_share_0 rfl (lv_at hl 2 rfl) ?_
  refine lv_iconst (v := (0 : Int32)) hx hb dL_share_1 (by decide) ?_
  refine lv_aload_n hx hb dL_share_2 rfl (lv_at hl 0 rfl) ?_
  refine lv_iload_n hx hb dL_share_3 rfl (lv_at hl 1 rfl) ?_
  refine g_tryi (av := [.int a1]) (rest := [.int 0, .ref (ad E 56)]) C I hZ hN (c_X4_share l hst E o a1 σ hf) (cwV 1 C.1.2.2.2.2 gL_share_X4_share rfl rfl rfl (by decide +kernel) ⟨Nat.le_of_ble_eq_true rfl, Nat.le_of_ble_eq_true rfl⟩) rfl hl.1 rfl (Nat.le_of_ble_eq_true rfl) ⟨Nat.le_of_ble_eq_true rfl, Nat.le_of_ble_eq_true rfl⟩ dL_share_4 ?_ ?_
  · intro x σ1 ce q9 H locs hres I hce hcv hcl
    rcases hk with ⟨r, h1, -⟩ | ⟨i, x2, h1, h2, hk, ho⟩
    · rw [hres] at h1; cases h1
    have hxe : x = x2 := by rw [hres] at h1; exact Sum.inr.inj h1
    subst hxe
    have hσ : res.2 = σ1 := by rw [hres]
    match i, h2, hk with
    | 0, h2, hk =>
      cases h2
      refine vx_catch (own := RL) (name := "java/lang/IllegalArgumentException") (E := "java/lang/IllegalArgumentException") C.1.2.2.2.1 [] (⟨0, 9, 12, 25⟩ : ExceptionTableEntry) [(⟨0, 9, 15, 47⟩ : ExceptionTableEntry)] htab (fun z hz => absurd hz List.not_mem_nil) rfl (by decide) (C.1.2.2.2.2 _ k_L_share_c25) (va_Nw.use rfl (hN.1 "java/lang/IllegalArgumentException" (by decide))) hce hcv hcl ?_
      show W _ _ _ _ _ _ _ _ _ _ _ _ _ _ _ (F0 m 12 ls [.ref q9])
      refine lv_astore_n (lv' := [(3, .ref q9), (0, .ref (ad E 0)), (1, .int a1), (2, .ref (ad E 56))]) hx hb dL_share_12 rfl hl (by decide) rfl (fun ls hl => ?_)
      refine lv_iconst (v := (1 : Int32)) hx hb dL_share_13 (by decide) ?_
      exact g_hret C I hr hlocks ⟨hk.symm, by rw [ho, hσ]⟩ (Nat.le_of_ble_eq_true rfl) (Nat.le_of_ble_eq_true rfl) dL_share_14
    | 1, h2, hk =>
      cases h2
      refine vx_catch (own := RL) (name := "java/lang/ArithmeticException") (E := "java/lang/ArithmeticException") C.1.2.2.2.1 [(⟨0, 9, 12, 25⟩ : ExceptionTableEntry)] (⟨0, 9, 15, 47⟩ : ExceptionTableEntry) [] htab (List.forall_mem_cons.mpr ⟨Or.inr ⟨by decide, "java/lang/IllegalArgumentException", C.1.2.2.2.2 _ k_L_share_c25, hNy ("java/lang/ArithmeticException", "java/lang/IllegalArgumentException") (by decide)⟩, (fun z hz => absurd hz List.not_mem_nil)⟩) rfl (by decide) (C.1.2.2.2.2 _ k_L_share_c47) (va_Nw.use rfl (hN.1 "java/lang/ArithmeticException" (by decide))) hce hcv hcl ?_
      show W _ _ _ _ _ _ _ _ _ _ _ _ _ _ _ (F0 m 15 ls [.ref q9])
      refine lv_astore_n (lv' := [(3, .ref q9), (0, .ref (ad E 0)), (1, .int a1), (2, .ref (ad E 56))]) hx hb dL_share_15 rfl hl (by decide) rfl (fun ls hl => ?_)
      refine lv_iconst (v := (2 : Int32)) hx hb dL_share_16 (by decide) ?_
      exact g_hret C I hr hlocks ⟨hk.symm, by rw [ho, hσ]⟩ (Nat.le_of_ble_eq_true rfl) (Nat.le_of_ble_eq_true rfl) dL_share_17
    | i + 2, h2, hk => exact absurd h2 (by simp)
  · intro r σ1 H locs hres I
    rcases hk with ⟨r2, h1, hk, ho⟩ | ⟨i, x2, h1, h2, hk, ho⟩
    · have hre : r = r2 := by rw [hres] at h1; exact Sum.inl.inj h1
      subst hre
      have hσ : res.2 = σ1 := by rw [hres]
      refine lv_i2l (v := r.toInt64) hx hb dL_share_7 rfl ?_
      refine g_last C I dL_share_8 (fun H locs I => ?_)
      refine lv_goto (tgt := 18) hx hb dL_share_9 (by decide) ?_
      refine lv_iconst (v := (0 : Int32)) hx hb dL_share_18 (by decide) ?_
      exact g_hret C I hr hlocks ⟨hk.symm, by rw [ho, hσ]⟩ (Nat.le_of_ble_eq_true rfl) (Nat.le_of_ble_eq_true rfl) dL_share_19
    · rw [hres] at h1; cases h1
abbrev rm_L_mean : Room := { frames := 7, cells := 1, slots := 6, locals := 103 }
theorem k_L_mean_c47 : Cond.classLink RL 47 "java/lang/ArithmeticException" ∈ wsL_mean := by decide +kernel
set_option maxHeartbeats 4000000 in
set_option maxRecDepth 100000 in
theorem c_L_mean (l : Launch) (hst : l.stackTraces = false) (E : En) (o : Int64)  (σ : St) {res : Ex × St} (hf : f_X4_mean  σ = some res) {k : Int32} {o2 : Int64} (hk : Hk ["java/lang/ArithmeticException"] res o k o2) : CH l yL_mean wsL_mean rm_L_mean E [.ref (ad E 0), .ref (ad E 56)] o σ 1 6 k o2 res.2 := by
  intro sz
  refine va_MetW (cc := cL_mean) (maxL := 3) (ret := (some .int)) (hh := [(0, 8, 11, 47)]) (by decide) rfl ?_
  intro p e s m args below meth c s₁ B hml hv
  obtain ⟨rfl, ⟨hv, hZ, hN⟩, hNy⟩ := hv
  obtain ⟨rfl, hK, I⟩ := hv.start
  have htab := vx_table (x := yL_mean) B (atoms_spec (ws := wsL_mean) B.pre _ List.mem_cons_self)
  have C : Cx p c cL_mean 3 s m _ wsL_mean RL E := ⟨⟨B.exec, B.bytes, hml, findClass_of_methodNamed B.named, atoms_spec (ws := wsL_mean) B.pre⟩, hK⟩
  have hx := C.1.1
  have hb := C.1.2.1
  have hr := B.returns
  have hlocks := B.notSynchronized
  clear hv
  have hl := lv_entry ([.ref (ad E 0), .ref (ad E 56)]) (n := 3) (Nat.le_of_ble_eq_true rfl)
  rw [lg_entry_eq]
  generalize (lg_sl ([.ref (ad E 0), .ref (ad E 56)]) ++ List.replicate (3 - (lg_sl ([.ref (ad E 0), .ref (ad E 56)])).length) Slot.unset).toArray = ls at hl ⊢
  have hl : lv_has ls 3 [(0, .ref (ad E 0)), (1, .ref (ad E 56))] := hl
  generalize ([.ref (ad E 0), .ref (ad E 56)] : List Value).toArray = args at C ⊢
  refine g_begin I (fun H locs I => ?_)
  refine lv_aload_n hx hb dL_mean_0 rfl (lv_at hl 1 rfl) ?_
  refine lv_iconst (v := (0 : Int32)) hx hb dL_mean_1 (by decide) ?_
  refine lv_aload_n hx hb dL_mean_2 rfl (lv_at hl 0 rfl) ?_
  refine g_tryi (av := []) (rest := [.int 0, .ref (ad E 56)]) C I hZ hN (c_X4_mean l hst E o  σ hf) (cwV 0 C.1.2.2.2.2 gL_mean_X4_mean rfl rfl rfl (by decide +kernel) ⟨Nat.le_of_ble_eq_true rfl, Nat.le_of_ble_eq_true rfl⟩) rfl hl.1 rfl (Nat.le_of_ble_eq_true rfl) ⟨Nat.le_of_ble_eq_true rfl, Nat.le_of_ble_eq_true rfl⟩ dL_mean_3 ?_ ?_
  · intro x σ1 ce q9 H locs hres I hce hcv hcl
    rcases hk with ⟨r, h1, -⟩ | ⟨i, x2, h1, h2, hk, ho⟩
    · rw [hres] at h1; cases h1
    have hxe : x = x2 := by rw [hres] at h1; exact Sum.inr.inj h1
    subst hxe
    have hσ : res.2 = σ1 := by rw [hres]
    match i, h2, hk with
    | 0, h2, hk =>
      cases h2
      refine vx_catch (own := RL) (name := "java/lang/ArithmeticException") (E := "java/lang/ArithmeticException") C.1.2.2.2.1 [] (⟨0, 8, 11, 47⟩ : ExceptionTableEntry) [] htab (fun z hz => absurd hz List.not_mem_nil) rfl (by decide) (C.1.2.2.2.2 _ k_L_mean_c47) (va_Nw.use rfl (hN.1 "java/lang/ArithmeticException" (by decide))) hce hcv hcl ?_
      show W _ _ _ _ _ _ _ _ _ _ _ _ _ _ _ (F0 m 11 ls [.ref q9])
      refine lv_astore_n (lv' := [(2, .ref q9), (0, .ref (ad E 0)), (1, .ref (ad E 56))]) hx hb dL_mean_11 rfl hl (by decide) rfl (fun ls hl => ?_)
      refine lv_iconst (v := (1 : Int32)) hx hb dL_mean_12 (by decide) ?_
      exact g_hret C I hr hlocks ⟨hk.symm, by rw [ho, hσ]⟩ (Nat.le_of_ble_eq_true rfl) (Nat.le_of_ble_eq_true rfl) dL_mean_13
    | i + 1, h2, hk => exact absurd h2 (by simp)
  · intro r σ1 H locs hres I
    rcases hk with ⟨r2, h1, hk, ho⟩ | ⟨i, x2, h1, h2, hk, ho⟩
    · have hre : r = r2 := by rw [hres] at h1; exact Sum.inl.inj h1
      subst hre
      have hσ : res.2 = σ1 := by rw [hres]
      refine lv_i2l (v := r.toInt64) hx hb dL_mean_6 rfl ?_
      refine g_last C I dL_mean_7 (fun H locs I => ?_)
      refine lv_goto (tgt := 14) hx hb dL_mean_8 (by decide) ?_
      refine lv_iconst (v := (0 : Int32)) hx hb dL_mean_14 (by decide) ?_
      exact g_hret C I hr hlocks ⟨hk.symm, by rw [ho, hσ]⟩ (Nat.le_of_ble_eq_true rfl) (Nat.le_of_ble_eq_true rfl) dL_mean_15
    · rw [hres] at h1; cases h1
abbrev rm_L_work : Room := { frames := 8, cells := 1, slots := 6, locals := 123 }
theorem k_L_work_c25 : Cond.classLink RL 25 "java/lang/IllegalArgumentException" ∈ wsL_work := by decide +kernel
set_option maxHeartbeats 4000000 in
set_option maxRecDepth 100000 in
theorem c_L_work (l : Launch) (hst : l.stackTraces = false) (E : En) (o : Int64) (a1 : Int32) (σ : St) {res : Ex × St} (hf : f_X4_work a1 σ = some res) {k : Int32} {o2 : Int64} (hk : Hk ["java/lang/IllegalArgumentException"] res o k o2) : CH l yL_work wsL_work rm_L_work E [.ref (ad E 0), .int a1, .ref (ad E 56)] o σ 1 6 k o2 res.2 := by
  intro sz
  refine va_MetW (cc := cL_work) (maxL := 4) (ret := (some .int)) (hh := [(0, 9, 12, 25)]) (by decide) rfl ?_
  intro p e s m args below meth c s₁ B hml hv
  obtain ⟨rfl, ⟨hv, hZ, hN⟩, hNy⟩ := hv
  obtain ⟨rfl, hK, I⟩ := hv.start
  have htab := vx_table (x := yL_work) B (atoms_spec (ws := wsL_work) B.pre _ List.mem_cons_self)
  have C : Cx p c cL_work 4 s m _ wsL_work RL E := ⟨⟨B.exec, B.bytes, hml, findClass_of_methodNamed B.named, atoms_spec (ws := wsL_work) B.pre⟩, hK⟩
  have hx := C.1.1
  have hb := C.1.2.1
  have hr := B.returns
  have hlocks := B.notSynchronized
  clear hv
  have hl := lv_entry ([.ref (ad E 0), .int a1, .ref (ad E 56)]) (n := 4) (Nat.le_of_ble_eq_true rfl)
  rw [lg_entry_eq]
  generalize (lg_sl ([.ref (ad E 0), .int a1, .ref (ad E 56)]) ++ List.replicate (4 - (lg_sl ([.ref (ad E 0), .int a1, .ref (ad E 56)])).length) Slot.unset).toArray = ls at hl ⊢
  have hl : lv_has ls 4 [(0, .ref (ad E 0)), (1, .int a1), (2, .ref (ad E 56))] := hl
  generalize ([.ref (ad E 0), .int a1, .ref (ad E 56)] : List Value).toArray = args at C ⊢
  refine g_begin I (fun H locs I => ?_)
  refine lv_aload_n hx hb dL_work_0 rfl (lv_at hl 2 rfl) ?_
  refine lv_iconst (v := (0 : Int32)) hx hb dL_work_1 (by decide) ?_
  refine lv_aload_n hx hb dL_work_2 rfl (lv_at hl 0 rfl) ?_
  refine lv_iload_n hx hb dL_work_3 rfl (lv_at hl 1 rfl) ?_
  refine g_tryi (av := [.int a1]) (rest := [.int 0, .ref (ad E 56)]) C I hZ hN (c_X4_work l hst E o a1 σ hf) (cwV 1 C.1.2.2.2.2 gL_work_X4_work rfl rfl rfl (by decide +kernel) ⟨Nat.le_of_ble_eq_true rfl, Nat.le_of_ble_eq_true rfl⟩) rfl hl.1 rfl (Nat.le_of_ble_eq_true rfl) ⟨Nat.le_of_ble_eq_true rfl, Nat.le_of_ble_eq_true rfl⟩ dL_work_4 ?_ ?_
  · intro x σ1 ce q9 H locs hres I hce hcv hcl
    rcases hk with ⟨r, h1, -⟩ | ⟨i, x2, h1, h2, hk, ho⟩
    · rw [hres] at h1; cases h1
    have hxe : x = x2 := by rw [hres] at h1; exact Sum.inr.inj h1
    subst hxe
    have hσ : res.2 = σ1 := by rw [hres]
    match i, h2, hk with
    | 0, h2, hk =>
      cases h2
      refine vx_catch (own := RL) (name := "java/lang/IllegalArgumentException") (E := "java/lang/IllegalArgumentException") C.1.2.2.2.1 [] (⟨0, 9, 12, 25⟩ : ExceptionTableEntry) [] htab (fun z hz => absurd hz List.not_mem_nil) rfl (by decide) (C.1.2.2.2.2 _ k_L_work_c25) (va_Nw.use rfl (hN.1 "java/lang/IllegalArgumentException" (by decide))) hce hcv hcl ?_
      show W _ _ _ _ _ _ _ _ _ _ _ _ _ _ _ (F0 m 12 ls [.ref q9])
      refine lv_astore_n (lv' := [(3, .ref q9), (0, .ref (ad E 0)), (1, .int a1), (2, .ref (ad E 56))]) hx hb dL_work_12 rfl hl (by decide) rfl (fun ls hl => ?_)
      refine lv_iconst (v := (1 : Int32)) hx hb dL_work_13 (by decide) ?_
      exact g_hret C I hr hlocks ⟨hk.symm, by rw [ho, hσ]⟩ (Nat.le_of_ble_eq_true rfl) (Nat.le_of_ble_eq_true rfl) dL_work_14
    | i + 1, h2, hk => exact absurd h2 (by simp)
  · intro r σ1 H locs hres I
    rcases hk with ⟨r2, h1, hk, ho⟩ | ⟨i, x2, h1, h2, hk, ho⟩
    · have hre : r = r2 := by rw [hres] at h1; exact Sum.inl.inj h1
      subst hre
      have hσ : res.2 = σ1 := by rw [hres]
      refine lv_i2l (v := r.toInt64) hx hb dL_work_7 rfl ?_
      refine g_last C I dL_work_8 (fun H locs I => ?_)
      refine lv_goto (tgt := 15) hx hb dL_work_9 (by decide) ?_
      refine lv_iconst (v := (0 : Int32)) hx hb dL_work_15 (by decide) ?_
      exact g_hret C I hr hlocks ⟨hk.symm, by rw [ho, hσ]⟩ (Nat.le_of_ble_eq_true rfl) (Nat.le_of_ble_eq_true rfl) dL_work_16
    · rw [hres] at h1; cases h1
abbrev rm_L_arrived : Room := { frames := 8, cells := 1, slots := 6, locals := 123 }
theorem k_L_arrived_c13 : Cond.classLink RL 13 "java/lang/IndexOutOfBoundsException" ∈ wsL_arrived := by decide +kernel
set_option maxHeartbeats 4000000 in
set_option maxRecDepth 100000 in
theorem c_L_arrived (l : Launch) (hst : l.stackTraces = false) (E : En) (o : Int64) (a1 : Int32) (σ : St) {res : Ex × St} (hf : f_X4_arrived a1 σ = some res) {k : Int32} {o2 : Int64} (hk : Hk ["java/lang/IndexOutOfBoundsException"] res o k o2) : CH l yL_arrived wsL_arrived rm_L_arrived E [.ref (ad E 0), .int a1, .ref (ad E 56)] o σ 1 6 k o2 res.2 := by
  intro sz
  refine va_MetW (cc := cL_arrived) (maxL := 4) (ret := (some .int)) (hh := [(0, 9, 12, 13)]) (by decide) rfl ?_
  intro p e s m args below meth c s₁ B hml hv
  obtain ⟨rfl, ⟨hv, hZ, hN⟩, hNy⟩ := hv
  obtain ⟨rfl, hK, I⟩ := hv.start
  have htab := vx_table (x := yL_arrived) B (atoms_spec (ws := wsL_arrived) B.pre _ List.mem_cons_self)
  have C : Cx p c cL_arrived 4 s m _ wsL_arrived RL E := ⟨⟨B.exec, B.bytes, hml, findClass_of_methodNamed B.named, atoms_spec (ws := wsL_arrived) B.pre⟩, hK⟩
  have hx := C.1.1
  have hb := C.1.2.1
  have hr := B.returns
  have hlocks := B.notSynchronized
  clear hv
  have hl := lv_entry ([.ref (ad E 0), .int a1, .ref (ad E 56)]) (n := 4) (Nat.le_of_ble_eq_true rfl)
  rw [lg_entry_eq]
  generalize (lg_sl ([.ref (ad E 0), .int a1, .ref (ad E 56)]) ++ List.replicate (4 - (lg_sl ([.ref (ad E 0), .int a1, .ref (ad E 56)])).length) Slot.unset).toArray = ls at hl ⊢
  have hl : lv_has ls 4 [(0, .ref (ad E 0)), (1, .int a1), (2, .ref (ad E 56))] := hl
  generalize ([.ref (ad E 0), .int a1, .ref (ad E 56)] : List Value).toArray = args at C ⊢
  refine g_begin I (fun H locs I => ?_)
  refine lv_aload_n hx hb dL_arrived_0 rfl (lv_at hl 2 rfl) ?_
  refine lv_iconst (v := (0 : Int32)) hx hb dL_arrived_1 (by decide) ?_
  refine lv_aload_n hx hb dL_arrived_2 rfl (lv_at hl 0 rfl) ?_
  refine lv_iload_n hx hb dL_arrived_3 rfl (lv_at hl 1 rfl) ?_
  refine g_tryi (av := [.int a1]) (rest := [.int 0, .ref (ad E 56)]) C I hZ hN (c_X4_arrived l hst E o a1 σ hf) (cwV 1 C.1.2.2.2.2 gL_arrived_X4_arrived rfl rfl rfl (by decide +kernel) ⟨Nat.le_of_ble_eq_true rfl, Nat.le_of_ble_eq_true rfl⟩) rfl hl.1 rfl (Nat.le_of_ble_eq_true rfl) ⟨Nat.le_of_ble_eq_true rfl, Nat.le_of_ble_eq_true rfl⟩ dL_arrived_4 ?_ ?_
  · intro x σ1 ce q9 H locs hres I hce hcv hcl
    rcases hk with ⟨r, h1, -⟩ | ⟨i, x2, h1, h2, hk, ho⟩
    · rw [hres] at h1; cases h1
    have hxe : x = x2 := by rw [hres] at h1; exact Sum.inr.inj h1
    subst hxe
    have hσ : res.2 = σ1 := by rw [hres]
    match i, h2, hk with
    | 0, h2, hk =>
      cases h2
      refine vx_catch (own := RL) (name := "java/lang/IndexOutOfBoundsException") (E := "java/lang/IndexOutOfBoundsException") C.1.2.2.2.1 [] (⟨0, 9, 12, 13⟩ : ExceptionTableEntry) [] htab (fun z hz => absurd hz List.not_mem_nil) rfl (by decide) (C.1.2.2.2.2 _ k_L_arrived_c13) (va_Nw.use rfl (hN.1 "java/lang/IndexOutOfBoundsException" (by decide))) hce hcv hcl ?_
      show W _ _ _ _ _ _ _ _ _ _ _ _ _ _ _ (F0 m 12 ls [.ref q9])
      refine lv_astore_n (lv' := [(3, .ref q9), (0, .ref (ad E 0)), (1, .int a1), (2, .ref (ad E 56))]) hx hb dL_arrived_12 rfl hl (by decide) rfl (fun ls hl => ?_)
      refine lv_iconst (v := (1 : Int32)) hx hb dL_arrived_13 (by decide) ?_
      exact g_hret C I hr hlocks ⟨hk.symm, by rw [ho, hσ]⟩ (Nat.le_of_ble_eq_true rfl) (Nat.le_of_ble_eq_true rfl) dL_arrived_14
    | i + 1, h2, hk => exact absurd h2 (by simp)
  · intro r σ1 H locs hres I
    rcases hk with ⟨r2, h1, hk, ho⟩ | ⟨i, x2, h1, h2, hk, ho⟩
    · have hre : r = r2 := by rw [hres] at h1; exact Sum.inl.inj h1
      subst hre
      have hσ : res.2 = σ1 := by rw [hres]
      refine lv_i2l (v := r.toInt64) hx hb dL_arrived_7 rfl ?_
      refine g_last C I dL_arrived_8 (fun H locs I => ?_)
      refine lv_goto (tgt := 15) hx hb dL_arrived_9 (by decide) ?_
      refine lv_iconst (v := (0 : Int32)) hx hb dL_arrived_15 (by decide) ?_
      exact g_hret C I hr hlocks ⟨hk.symm, by rw [ho, hσ]⟩ (Nat.le_of_ble_eq_true rfl) (Nat.le_of_ble_eq_true rfl) dL_arrived_16
    · rw [hres] at h1; cases h1
abbrev rm_L_unlucky : Room := { frames := 8, cells := 3, slots := 18, locals := 147 }
theorem k_L_unlucky_c25 : Cond.classLink RL 25 "java/lang/IllegalArgumentException" ∈ wsL_unlucky := by decide +kernel
theorem k_L_unlucky_c13 : Cond.classLink RL 13 "java/lang/IndexOutOfBoundsException" ∈ wsL_unlucky := by decide +kernel
theorem k_L_unlucky_c27 : Cond.classLink RL 27 "java/lang/IllegalStateException" ∈ wsL_unlucky := by decide +kernel
set_option maxHeartbeats 4000000 in
set_option maxRecDepth 100000 in
theorem c_L_unlucky (l : Launch) (hst : l.stackTraces = false) (E : En) (o : Int64) (a1 : Int32) (a2 : Int32) (a3 : Int32) (a4 : Int32) (a5 : Int32) (σ : St) {res : Ex × St} (hf : f_X4_unlucky a1 a2 a3 a4 a5 σ = some res) {k : Int32} {o2 : Int64} (hk : Hk ["java/lang/IllegalArgumentException", "java/lang/IndexOutOfBoundsException", "java/lang/IllegalStateException"] res o k o2) : CH l yL_unlucky wsL_unlucky rm_L_unlucky E [.ref (ad E 0), .int a1, .int a2, .int a3, .int a4, .int a5, .ref (ad E 56)] o σ 3 18 k o2 res.2 := by
  intro sz
  refine va_MetW (cc := cL_unlucky) (maxL := 8) (ret := (some .int)) (hh := [(0, 16, 19, 25), (0, 16, 23, 13), (0, 16, 27, 27)]) (by decide) rfl ?_
  intro p e s m args below meth c s₁ B hml hv
  obtain ⟨rfl, ⟨hv, hZ, hN⟩, hNy⟩ := hv
  obtain ⟨rfl, hK, I⟩ := hv.start
  have htab := vx_table (x := yL_unlucky) B (atoms_spec (ws := wsL_unlucky) B.pre _ List.mem_cons_self)
  have C : Cx p c cL_unlucky 8 s m _ wsL_unlucky RL E := ⟨⟨B.exec, B.bytes, hml, findClass_of_methodNamed B.named, atoms_spec (ws := wsL_unlucky) B.pre⟩, hK⟩
  have hx := C.1.1
  have hb := C.1.2.1
  have hr := B.returns
  have hlocks := B.notSynchronized
  clear hv
  have hl := lv_entry ([.ref (ad E 0), .int a1, .int a2, .int a3, .int a4, .int a5, .ref (ad E 56)]) (n := 8) (Nat.le_of_ble_eq_true rfl)
  rw [lg_entry_eq]
  generalize (lg_sl ([.ref (ad E 0), .int a1, .int a2, .int a3, .int a4, .int a5, .ref (ad E 56)]) ++ List.replicate (8 - (lg_sl ([.ref (ad E 0), .int a1, .int a2, .int a3, .int a4, .int a5, .ref (ad E 56)])).length) Slot.unset).toArray = ls at hl ⊢
  have hl : lv_has ls 8 [(0, .ref (ad E 0)), (1, .int a1), (2, .int a2), (3, .int a3), (4, .int a4), (5, .int a5), (6, .ref (ad E 56))] := hl
  generalize ([.ref (ad E 0), .int a1, .int a2, .int a3, .int a4, .int a5, .ref (ad E 56)] : List Value).toArray = args at C ⊢
  refine g_begin I (fun H locs I => ?_)
  refine lv_aload hx hb dL_unlucky_0 (lv_at hl 6 rfl) ?_
  refine lv_iconst (v := (0 : Int32)) hx hb dL_unlucky_2 (by decide) ?_
  refine lv_aload_n hx hb dL_unlucky_3 rfl (lv_at hl 0 rfl) ?_
  refine lv_iload_n hx hb dL_unlucky_4 rfl (lv_at hl 1 rfl) ?_
  refine lv_iload_n hx hb dL_unlucky_5 rfl (lv_at hl 2 rfl) ?_
  refine lv_iload_n hx hb dL_unlucky_6 rfl (lv_at hl 3 rfl) ?_
  refine lv_iload hx hb dL_unlucky_7 (lv_at hl 4 rfl) ?_
  refine lv_iload hx hb dL_unlucky_9 (lv_at hl 5 rfl) ?_
  refine g_tryi (av := [.int a1, .int a2, .int a3, .int a4, .int a5]) (rest := [.int 0, .ref (ad E 56)]) C I hZ hN (c_X4_unlucky l hst E o a1 a2 a3 a4 a5 σ hf) (cwV 5 C.1.2.2.2.2 gL_unlucky_X4_unlucky rfl rfl rfl (by decide +kernel) ⟨Nat.le_of_ble_eq_true rfl, Nat.le_of_ble_eq_true rfl⟩) rfl hl.1 rfl (Nat.le_of_ble_eq_true rfl) ⟨Nat.le_of_ble_eq_true rfl, Nat.le_of_ble_eq_true rfl⟩ dL_unlucky_11 ?_ ?_
  · intro x σ1 ce q9 H locs hres I hce hcv hcl
    rcases hk with ⟨r, h1, -⟩ | ⟨i, x2, h1, h2, hk, ho⟩
    · rw [hres] at h1; cases h1
    have hxe : x = x2 := by rw [hres] at h1; exact Sum.inr.inj h1
    subst hxe
    have hσ : res.2 = σ1 := by rw [hres]
    match i, h2, hk with
    | 0, h2, hk =>
      cases h2
      refine vx_catch (own := RL) (name := "java/lang/IllegalArgumentException") (E := "java/lang/IllegalArgumentException") C.1.2.2.2.1 [] (⟨0, 16, 19, 25⟩ : ExceptionTableEntry) [(⟨0, 16, 23, 13⟩ : ExceptionTableEntry), (⟨0, 16, 27, 27⟩ : ExceptionTableEntry)] htab (fun z hz => absurd hz List.not_mem_nil) rfl (by decide) (C.1.2.2.2.2 _ k_L_unlucky_c25) (va_Nw.use rfl (hN.1 "java/lang/IllegalArgumentException" (by decide))) hce hcv hcl ?_
      show W _ _ _ _ _ _ _ _ _ _ _ _ _ _ _ (F0 m 19 ls [.ref q9])
      refine lv_astore (lv' := [(7, .ref q9), (0, .ref (ad E 0)), (1, .int a1), (2, .int a2), (3, .int a3), (4, .int a4), (5, .int a5), (6, .ref (ad E 56))]) hx hb dL_unlucky_19 hl (by decide) rfl (fun ls hl => ?_)
      refine lv_iconst (v := (1 : Int32)) hx hb dL_unlucky_21 (by decide) ?_
      exact g_hret C I hr hlocks ⟨hk.symm, by rw [ho, hσ]⟩ (Nat.le_of_ble_eq_true rfl) (Nat.le_of_ble_eq_true rfl) dL_unlucky_22
    | 1, h2, hk =>
      cases h2
      refine vx_catch (own := RL) (name := "java/lang/IndexOutOfBoundsException") (E := "java/lang/IndexOutOfBoundsException") C.1.2.2.2.1 [(⟨0, 16, 19, 25⟩ : ExceptionTableEntry)] (⟨0, 16, 23, 13⟩ : ExceptionTableEntry) [(⟨0, 16, 27, 27⟩ : ExceptionTableEntry)] htab (List.forall_mem_cons.mpr ⟨Or.inr ⟨by decide, "java/lang/IllegalArgumentException", C.1.2.2.2.2 _ k_L_unlucky_c25, hNy ("java/lang/IndexOutOfBoundsException", "java/lang/IllegalArgumentException") (by decide)⟩, (fun z hz => absurd hz List.not_mem_nil)⟩) rfl (by decide) (C.1.2.2.2.2 _ k_L_unlucky_c13) (va_Nw.use rfl (hN.1 "java/lang/IndexOutOfBoundsException" (by decide))) hce hcv hcl ?_
      show W _ _ _ _ _ _ _ _ _ _ _ _ _ _ _ (F0 m 23 ls [.ref q9])
      refine lv_astore (lv' := [(7, .ref q9), (0, .ref (ad E 0)), (1, .int a1), (2, .int a2), (3, .int a3), (4, .int a4), (5, .int a5), (6, .ref (ad E 56))]) hx hb dL_unlucky_23 hl (by decide) rfl (fun ls hl => ?_)
      refine lv_iconst (v := (2 : Int32)) hx hb dL_unlucky_25 (by decide) ?_
      exact g_hret C I hr hlocks ⟨hk.symm, by rw [ho, hσ]⟩ (Nat.le_of_ble_eq_true rfl) (Nat.le_of_ble_eq_true rfl) dL_unlucky_26
    | 2, h2, hk =>
      cases h2
      refine vx_catch (own := RL) (name := "java/lang/IllegalStateException") (E := "java/lang/IllegalStateException") C.1.2.2.2.1 [(⟨0, 16, 19, 25⟩ : ExceptionTableEntry), (⟨0, 16, 23, 13⟩ : ExceptionTableEntry)] (⟨0, 16, 27, 27⟩ : ExceptionTableEntry) [] htab (List.forall_mem_cons.mpr ⟨Or.inr ⟨by decide, "java/lang/IllegalArgumentException", C.1.2.2.2.2 _ k_L_unlucky_c25, hNy ("java/lang/IllegalStateException", "java/lang/IllegalArgumentException") (by decide)⟩, (List.forall_mem_cons.mpr ⟨Or.inr ⟨by decide, "java/lang/IndexOutOfBoundsException", C.1.2.2.2.2 _ k_L_unlucky_c13, hNy ("java/lang/IllegalStateException", "java/lang/IndexOutOfBoundsException") (by decide)⟩, (fun z hz => absurd hz List.not_mem_nil)⟩)⟩) rfl (by decide) (C.1.2.2.2.2 _ k_L_unlucky_c27) (va_Nw.use rfl (hN.1 "java/lang/IllegalStateException" (by decide))) hce hcv hcl ?_
      show W _ _ _ _ _ _ _ _ _ _ _ _ _ _ _ (F0 m 27 ls [.ref q9])
      refine lv_astore (lv' := [(7, .ref q9), (0, .ref (ad E 0)), (1, .int a1), (2, .int a2), (3, .int a3), (4, .int a4), (5, .int a5), (6, .ref (ad E 56))]) hx hb dL_unlucky_27 hl (by decide) rfl (fun ls hl => ?_)
      refine lv_iconst (v := (3 : Int32)) hx hb dL_unlucky_29 (by decide) ?_
      exact g_hret C I hr hlocks ⟨hk.symm, by rw [ho, hσ]⟩ (Nat.le_of_ble_eq_true rfl) (Nat.le_of_ble_eq_true rfl) dL_unlucky_30
    | i + 3, h2, hk => exact absurd h2 (by simp)
  · intro r σ1 H locs hres I
    rcases hk with ⟨r2, h1, hk, ho⟩ | ⟨i, x2, h1, h2, hk, ho⟩
    · have hre : r = r2 := by rw [hres] at h1; exact Sum.inl.inj h1
      subst hre
      have hσ : res.2 = σ1 := by rw [hres]
      refine lv_i2l (v := r.toInt64) hx hb dL_unlucky_14 rfl ?_
      refine g_last C I dL_unlucky_15 (fun H locs I => ?_)
      refine lv_goto (tgt := 31) hx hb dL_unlucky_16 (by decide) ?_
      refine lv_iconst (v := (0 : Int32)) hx hb dL_unlucky_31 (by decide) ?_
      exact g_hret C I hr hlocks ⟨hk.symm, by rw [ho, hσ]⟩ (Nat.le_of_ble_eq_true rfl) (Nat.le_of_ble_eq_true rfl) dL_unlucky_32
    · rw [hres] at h1; cases h1
abbrev rm_L_compare : Room := { frames := 8, cells := 3, slots := 18, locals := 149 }
theorem k_L_compare_c25 : Cond.classLink RL 25 "java/lang/IllegalArgumentException" ∈ wsL_compare := by decide +kernel
theorem k_L_compare_c13 : Cond.classLink RL 13 "java/lang/IndexOutOfBoundsException" ∈ wsL_compare := by decide +kernel
theorem k_L_compare_c27 : Cond.classLink RL 27 "java/lang/IllegalStateException" ∈ wsL_compare := by decide +kernel
set_option maxHeartbeats 4000000 in
set_option maxRecDepth 100000 in
theorem c_L_compare (l : Launch) (hst : l.stackTraces = false) (E : En) (o : Int64) (a1 : Int32) (a2 : Int32) (a3 : Int32) (a4 : Int32) (a5 : Int32) (a6 : Int32) (σ : St) {res : Ex × St} (hf : f_X4_compare a1 a2 a3 a4 a5 a6 σ = some res) {k : Int32} {o2 : Int64} (hk : Hk ["java/lang/IllegalArgumentException", "java/lang/IndexOutOfBoundsException", "java/lang/IllegalStateException"] res o k o2) : CH l yL_compare wsL_compare rm_L_compare E [.ref (ad E 0), .int a1, .int a2, .int a3, .int a4, .int a5, .int a6, .ref (ad E 56)] o σ 3 18 k o2 res.2 := by
  intro sz
  refine va_MetW (cc := cL_compare) (maxL := 9) (ret := (some .int)) (hh := [(0, 18, 21, 25), (0, 18, 25, 13), (0, 18, 29, 27)]) (by decide) rfl ?_
  intro p e s m args below meth c s₁ B hml hv
  obtain ⟨rfl, ⟨hv, hZ, hN⟩, hNy⟩ := hv
  obtain ⟨rfl, hK, I⟩ := hv.start
  have htab := vx_table (x := yL_compare) B (atoms_spec (ws := wsL_compare) B.pre _ List.mem_cons_self)
  have C : Cx p c cL_compare 9 s m _ wsL_compare RL E := ⟨⟨B.exec, B.bytes, hml, findClass_of_methodNamed B.named, atoms_spec (ws := wsL_compare) B.pre⟩, hK⟩
  have hx := C.1.1
  have hb := C.1.2.1
  have hr := B.returns
  have hlocks := B.notSynchronized
  clear hv
  have hl := lv_entry ([.ref (ad E 0), .int a1, .int a2, .int a3, .int a4, .int a5, .int a6, .ref (ad E 56)]) (n := 9) (Nat.le_of_ble_eq_true rfl)
  rw [lg_entry_eq]
  generalize (lg_sl ([.ref (ad E 0), .int a1, .int a2, .int a3, .int a4, .int a5, .int a6, .ref (ad E 56)]) ++ List.replicate (9 - (lg_sl ([.ref (ad E 0), .int a1, .int a2, .int a3, .int a4, .int a5, .int a6, .ref (ad E 56)])).length) Slot.unset).toArray = ls at hl ⊢
  have hl : lv_has ls 9 [(0, .ref (ad E 0)), (1, .int a1), (2, .int a2), (3, .int a3), (4, .int a4), (5, .int a5), (6, .int a6), (7, .ref (ad E 56))] := hl
  generalize ([.ref (ad E 0), .int a1, .int a2, .int a3, .int a4, .int a5, .int a6, .ref (ad E 56)] : List Value).toArray = args at C ⊢
  refine g_begin I (fun H locs I => ?_)
  refine lv_aload hx hb dL_compare_0 (lv_at hl 7 rfl) ?_
  refine lv_iconst (v := (0 : Int32)) hx hb dL_compare_2 (by decide) ?_
  refine lv_aload_n hx hb dL_compare_3 rfl (lv_at hl 0 rfl) ?_
  refine lv_iload_n hx hb dL_compare_4 rfl (lv_at hl 1 rfl) ?_
  refine lv_iload_n hx hb dL_compare_5 rfl (lv_at hl 2 rfl) ?_
  refine lv_iload_n hx hb dL_compare_6 rfl (lv_at hl 3 rfl) ?_
  refine lv_iload hx hb dL_compare_7 (lv_at hl 4 rfl) ?_
  refine lv_iload hx hb dL_compare_9 (lv_at hl 5 rfl) ?_
  refine lv_iload hx hb dL_compare_11 (lv_at hl 6 rfl) ?_
  refine g_tryi (av := [.int a1, .int a2, .int a3, .int a4, .int a5, .int a6]) (rest := [.int 0, .ref (ad E 56)]) C I hZ hN (c_X4_compare l hst E o a1 a2 a3 a4 a5 a6 σ hf) (cwV 6 C.1.2.2.2.2 gL_compare_X4_compare rfl rfl rfl (by decide +kernel) ⟨Nat.le_of_ble_eq_true rfl, Nat.le_of_ble_eq_true rfl⟩) rfl hl.1 rfl (Nat.le_of_ble_eq_true rfl) ⟨Nat.le_of_ble_eq_true rfl, Nat.le_of_ble_eq_true rfl⟩ dL_compare_13 ?_ ?_
  · intro x σ1 ce q9 H locs hres I hce hcv hcl
    rcases hk with ⟨r, h1, -⟩ | ⟨i, x2, h1, h2, hk, ho⟩
    · rw [hres] at h1; cases h1
    have hxe : x = x2 := by rw [hres] at h1; exact Sum.inr.inj h1
    subst hxe
    have hσ : res.2 = σ1 := by rw [hres]
    match i, h2, hk with
    | 0, h2, hk =>
      cases h2
      refine vx_catch (own := RL) (name := "java/lang/IllegalArgumentException") (E := "java/lang/IllegalArgumentException") C.1.2.2.2.1 [] (⟨0, 18, 21, 25⟩ : ExceptionTableEntry) [(⟨0, 18, 25, 13⟩ : ExceptionTableEntry), (⟨0, 18, 29, 27⟩ : ExceptionTableEntry)] htab (fun z hz => absurd hz List.not_mem_nil) rfl (by decide) (C.1.2.2.2.2 _ k_L_compare_c25) (va_Nw.use rfl (hN.1 "java/lang/IllegalArgumentException" (by decide))) hce hcv hcl ?_
      show W _ _ _ _ _ _ _ _ _ _ _ _ _ _ _ (F0 m 21 ls [.ref q9])
      refine lv_astore (lv' := [(8, .ref q9), (0, .ref (ad E 0)), (1, .int a1), (2, .int a2), (3, .int a3), (4, .int a4), (5, .int a5), (6, .int a6), (7, .ref (ad E 56))]) hx hb dL_compare_21 hl (by decide) rfl (fun ls hl => ?_)
      refine lv_iconst (v := (1 : Int32)) hx hb dL_compare_23 (by decide) ?_
      exact g_hret C I hr hlocks ⟨hk.symm, by rw [ho, hσ]⟩ (Nat.le_of_ble_eq_true rfl) (Nat.le_of_ble_eq_true rfl) dL_compare_24
    | 1, h2, hk =>
      cases h2
      refine vx_catch (own := RL) (name := "java/lang/IndexOutOfBoundsException") (E := "java/lang/IndexOutOfBoundsException") C.1.2.2.2.1 [(⟨0, 18, 21, 25⟩ : ExceptionTableEntry)] (⟨0, 18, 25, 13⟩ : ExceptionTableEntry) [(⟨0, 18, 29, 27⟩ : ExceptionTableEntry)] htab (List.forall_mem_cons.mpr ⟨Or.inr ⟨by decide, "java/lang/IllegalArgumentException", C.1.2.2.2.2 _ k_L_compare_c25, hNy ("java/lang/IndexOutOfBoundsException", "java/lang/IllegalArgumentException") (by decide)⟩, (fun z hz => absurd hz List.not_mem_nil)⟩) rfl (by decide) (C.1.2.2.2.2 _ k_L_compare_c13) (va_Nw.use rfl (hN.1 "java/lang/IndexOutOfBoundsException" (by decide))) hce hcv hcl ?_
      show W _ _ _ _ _ _ _ _ _ _ _ _ _ _ _ (F0 m 25 ls [.ref q9])
      refine lv_astore (lv' := [(8, .ref q9), (0, .ref (ad E 0)), (1, .int a1), (2, .int a2), (3, .int a3), (4, .int a4), (5, .int a5), (6, .int a6), (7, .ref (ad E 56))]) hx hb dL_compare_25 hl (by decide) rfl (fun ls hl => ?_)
      refine lv_iconst (v := (2 : Int32)) hx hb dL_compare_27 (by decide) ?_
      exact g_hret C I hr hlocks ⟨hk.symm, by rw [ho, hσ]⟩ (Nat.le_of_ble_eq_true rfl) (Nat.le_of_ble_eq_true rfl) dL_compare_28
    | 2, h2, hk =>
      cases h2
      refine vx_catch (own := RL) (name := "java/lang/IllegalStateException") (E := "java/lang/IllegalStateException") C.1.2.2.2.1 [(⟨0, 18, 21, 25⟩ : ExceptionTableEntry), (⟨0, 18, 25, 13⟩ : ExceptionTableEntry)] (⟨0, 18, 29, 27⟩ : ExceptionTableEntry) [] htab (List.forall_mem_cons.mpr ⟨Or.inr ⟨by decide, "java/lang/IllegalArgumentException", C.1.2.2.2.2 _ k_L_compare_c25, hNy ("java/lang/IllegalStateException", "java/lang/IllegalArgumentException") (by decide)⟩, (List.forall_mem_cons.mpr ⟨Or.inr ⟨by decide, "java/lang/IndexOutOfBoundsException", C.1.2.2.2.2 _ k_L_compare_c13, hNy ("java/lang/IllegalStateException", "java/lang/IndexOutOfBoundsException") (by decide)⟩, (fun z hz => absurd hz List.not_mem_nil)⟩)⟩) rfl (by decide) (C.1.2.2.2.2 _ k_L_compare_c27) (va_Nw.use rfl (hN.1 "java/lang/IllegalStateException" (by decide))) hce hcv hcl ?_
      show W _ _ _ _ _ _ _ _ _ _ _ _ _ _ _ (F0 m 29 ls [.ref q9])
      refine lv_astore (lv' := [(8, .ref q9), (0, .ref (ad E 0)), (1, .int a1), (2, .int a2), (3, .int a3), (4, .int a4), (5, .int a5), (6, .int a6), (7, .ref (ad E 56))]) hx hb dL_compare_29 hl (by decide) rfl (fun ls hl => ?_)
      refine lv_iconst (v := (3 : Int32)) hx hb dL_compare_31 (by decide) ?_
      exact g_hret C I hr hlocks ⟨hk.symm, by rw [ho, hσ]⟩ (Nat.le_of_ble_eq_true rfl) (Nat.le_of_ble_eq_true rfl) dL_compare_32
    | i + 3, h2, hk => exact absurd h2 (by simp)
  · intro r σ1 H locs hres I
    rcases hk with ⟨r2, h1, hk, ho⟩ | ⟨i, x2, h1, h2, hk, ho⟩
    · have hre : r = r2 := by rw [hres] at h1; exact Sum.inl.inj h1
      subst hre
      have hσ : res.2 = σ1 := by rw [hres]
      refine lv_i2l (v := r.toInt64) hx hb dL_compare_16 rfl ?_
      refine g_last C I dL_compare_17 (fun H locs I => ?_)
      refine lv_goto (tgt := 33) hx hb dL_compare_18 (by decide) ?_
      refine lv_iconst (v := (0 : Int32)) hx hb dL_compare_33 (by decide) ?_
      exact g_hret C I hr hlocks ⟨hk.symm, by rw [ho, hσ]⟩ (Nat.le_of_ble_eq_true rfl) (Nat.le_of_ble_eq_true rfl) dL_compare_34
    · rw [hres] at h1; cases h1
