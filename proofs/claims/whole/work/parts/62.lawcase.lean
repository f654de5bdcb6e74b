/-! the law: a round of its loop, call by call, by wip/gen/law.py -/
set_option maxHeartbeats 4000000 in
set_option maxRecDepth 100000 in
theorem law_station {p : Program} {l : Launch} {e : Env} {s : State} {m : MethodId} {b : Nat} {below : List Frame} {meth : Method} {c : Code} {E : En} {L : Nat} {xs : Nat → Int32} {i cells slots : Nat} (X : Lx p l c s m meth E b L xs) (hi : i + 7 ≤ L) (hc : cells + 3 ≤ 601024) (hs : slots + 18 ≤ 7293034) (ih : Nxt p l e s m b below meth c E i cells slots) (o : Int64) (σ : St) (H : Heap) (locs : List Loc) (ls : Array Slot) (hI : Inv σ) (I : Iv E (AL s) s.heap o σ H locs) (hl : lv_has ls 7 (lvL E b i)) : LW p l e s m b below meth c H locs cells slots (F0 m 116 ls []) := by
  obtain ⟨C, hst, hlocks, hr, hZ, hN, hNy, hX, hbl, hL⟩ := X
  have hx := C.1.1
  have hb := C.1.2.1
  obtain ⟨rx, σ1, rm, σ2, k, o2, e1, e2, I2, hk, hth, hval⟩ := (op_station (xs (i + 1)) (xs (i + 2))).law (by decide) hI o
  refine lv_aload_n hx hb dL_law_116 rfl (lv_at hl 2 rfl) ?_
  refine lv_aload_n hx hb dL_law_117 rfl (lv_at hl 1 rfl) ?_
  refine lv_iload hx hb dL_law_118 (lv_at hl 0 rfl) ?_
  refine lv_iconst (v := (1 : Int32)) hx hb dL_law_120 (by decide) ?_
  refine lv_iadd hx hb dL_law_121 ?_
  refine g_sld hx hb hX hbl I (i := i) (j := 1) (by omega) hL (nI_add i 1) dL_law_122 ?_
  refine lv_aload_n hx hb dL_law_123 rfl (lv_at hl 1 rfl) ?_
  refine lv_iload hx hb dL_law_124 (lv_at hl 0 rfl) ?_
  refine lv_iconst (v := (2 : Int32)) hx hb dL_law_126 (by decide) ?_
  refine lv_iadd hx hb dL_law_127 ?_
  refine g_sld hx hb hX hbl I (i := i) (j := 2) (by omega) hL (nI_add i 2) dL_law_128 ?_
  refine lv_aload_n hx hb dL_law_129 rfl (lv_at hl 4 rfl) ?_
  refine g_help (av := [.ref (ad E 0), .int (xs (i + 1)), .int (xs (i + 2)), .ref (ad E 56)]) (rest := []) C I hZ hN hNy (c_L_station l hst E o (xs (i + 1)) (xs (i + 2)) σ e1 hk) (vx_cwSW 4 C.1.2.2.2.2 gL_law_L_station rfl rfl rfl (by decide +kernel) ⟨Nat.le_of_ble_eq_true rfl, Nat.le_of_ble_eq_true rfl⟩) rfl hl.1 rfl (Nat.le_of_ble_eq_true rfl) ⟨by show cells + 2 ≤ 601024; omega, by show slots + 12 ≤ 7293034; omega⟩ dL_law_130 (fun H locs I => ?_)
  refine lv_istore (lv' := [(5, .int k), (4, .int (nI i)), (0, .ref b), (1, .ref (ad E 0)), (2, .ref (ad E 39)), (3, .ref (ad E 56))]) hx hb dL_law_133 hl (by decide) rfl (fun ls hl => ?_)
  refine lv_aload_n hx hb dL_law_135 rfl (lv_at hl 4 rfl) ?_
  refine lv_aload_n hx hb dL_law_136 rfl (lv_at hl 2 rfl) ?_
  refine lv_iload hx hb dL_law_137 (lv_at hl 1 rfl) ?_
  refine lv_iconst (v := (1 : Int32)) hx hb dL_law_139 (by decide) ?_
  refine lv_iadd hx hb dL_law_140 ?_
  refine g_sld hx hb hX hbl I (i := i) (j := 1) (by omega) hL (nI_add i 1) dL_law_141 ?_
  refine lv_aload_n hx hb dL_law_142 rfl (lv_at hl 2 rfl) ?_
  refine lv_iload hx hb dL_law_143 (lv_at hl 1 rfl) ?_
  refine lv_iconst (v := (2 : Int32)) hx hb dL_law_145 (by decide) ?_
  refine lv_iadd hx hb dL_law_146 ?_
  refine g_sld hx hb hX hbl I (i := i) (j := 2) (by omega) hL (nI_add i 2) dL_law_147 ?_
  refine g_cvi (av := [.int (xs (i + 1)), .int (xs (i + 2))]) (rest := []) (k := 39) C I (fun _ h => h) (c_X5_station l E o2 (xs (i + 1)) (xs (i + 2)) σ1 e2) (cwV 2 C.1.2.2.2.2 gL_law_X5_station rfl rfl rfl (by decide +kernel) ⟨Nat.le_of_ble_eq_true rfl, Nat.le_of_ble_eq_true rfl⟩) (by decide) (gk_39 E o2 _) rfl rfl rfl hl.1 rfl (Nat.le_of_ble_eq_true rfl) ⟨by show (cells + 2) ≤ 601024; omega, by show (slots + 12) ≤ 7293034; omega⟩ dL_law_148 (fun H locs I => ?_)
  refine lv_istore (lv' := [(6, .int rm), (5, .int k), (4, .int (nI i)), (0, .ref b), (1, .ref (ad E 0)), (2, .ref (ad E 39)), (3, .ref (ad E 56))]) hx hb dL_law_151 hl (by decide) rfl (fun ls hl => ?_)
  refine lv_aload_n hx hb dL_law_153 rfl (lv_at hl 5 rfl) ?_
  refine g_cvi (av := []) (rest := []) (k := 39) C I (fun _ h => h) (c_X5_thrown l E o2 σ2 (f_thrown σ2)) (cwV 0 C.1.2.2.2.2 gL_law_X5_thrown rfl rfl rfl (by decide +kernel) ⟨Nat.le_of_ble_eq_true rfl, Nat.le_of_ble_eq_true rfl⟩) (by decide) (gk_39 E o2 _) rfl rfl rfl hl.1 rfl (Nat.le_of_ble_eq_true rfl) ⟨by show (cells + 2) ≤ 601024; omega, by show (slots + 12) ≤ 7293034; omega⟩ dL_law_154 (fun H locs I => ?_)
  refine lv_iload hx hb dL_law_157 (lv_at hl 1 rfl) ?_
  refine lv_icmp_eq (tgt := 164) hx hb dL_law_159 (by decide) (fun c_159 => ?_) (fun c_159 => ?_)
  · refine lv_iload hx hb dL_law_164 (lv_at hl 1 rfl) ?_
    refine lv_if_ne (tgt := 181) hx hb dL_law_166 (by decide) (fun c_166 => ?_) (fun c_166 => ?_)
    · refine lv_goto (tgt := 1048) hx hb dL_law_181 (by decide) ?_
      refine lv_iinc (v := nI (i + 7)) (lv' := [(4, .int (nI (i + 7))), (6, .int rm), (5, .int k), (0, .ref b), (1, .ref (ad E 0)), (2, .ref (ad E 39)), (3, .ref (ad E 56))]) hx hb dL_law_1048 hl (k := 2) rfl (nI_add i 7) (by decide) rfl (fun ls hl => ?_)
      refine lv_goto (tgt := 23) hx hb dL_law_1051 (by decide) ?_
      exact ih o2 σ2 H locs ls _ _ (by omega) (by omega) I2 I (lv_sub hl [0, 3, 4, 5, 6] rfl)
    · have hkz : k = 0 := Decidable.byContradiction (fun q => absurd q (by simpa using c_166))
      refine lv_aload_n hx hb dL_law_169 rfl (lv_at hl 6 rfl) ?_
      refine lv_iconst (v := (0 : Int32)) hx hb dL_law_170 (by decide) ?_
      refine g_lald C I dL_law_171 ?_
      refine lv_iload hx hb dL_law_172 (lv_at hl 0 rfl) ?_
      refine lv_i2l (v := rm.toInt64) hx hb dL_law_174 rfl ?_
      refine W.lcmp hx hb dL_law_175 ?_
      refine lv_if_eq (tgt := 181) hx hb dL_law_176 (by decide) (fun c_176 => ?_) (fun c_176 => ?_)
      · refine lv_goto (tgt := 1048) hx hb dL_law_181 (by decide) ?_
        refine lv_iinc (v := nI (i + 7)) (lv' := [(4, .int (nI (i + 7))), (6, .int rm), (5, .int k), (0, .ref b), (1, .ref (ad E 0)), (2, .ref (ad E 39)), (3, .ref (ad E 56))]) hx hb dL_law_1048 hl (k := 2) rfl (nI_add i 7) (by decide) rfl (fun ls hl => ?_)
        refine lv_goto (tgt := 23) hx hb dL_law_1051 (by decide) ?_
        exact ih o2 σ2 H locs ls _ _ (by omega) (by omega) I2 I (lv_sub hl [0, 3, 4, 5, 6] rfl)
      · exact absurd ((lg_cmp_eq _ _).mpr (hval hkz)) c_176
  · exact absurd hth c_159
set_option maxHeartbeats 4000000 in
set_option maxRecDepth 100000 in
theorem law_area {p : Program} {l : Launch} {e : Env} {s : State} {m : MethodId} {b : Nat} {below : List Frame} {meth : Method} {c : Code} {E : En} {L : Nat} {xs : Nat → Int32} {i cells slots : Nat} (X : Lx p l c s m meth E b L xs) (hi : i + 7 ≤ L) (hc : cells + 3 ≤ 601024) (hs : slots + 18 ≤ 7293034) (ih : Nxt p l e s m b below meth c E i cells slots) (o : Int64) (σ : St) (H : Heap) (locs : List Loc) (ls : Array Slot) (hI : Inv σ) (I : Iv E (AL s) s.heap o σ H locs) (hl : lv_has ls 7 (lvL E b i)) : LW p l e s m b below meth c H locs cells slots (F0 m 184 ls []) := by
  obtain ⟨C, hst, hlocks, hr, hZ, hN, hNy, hX, hbl, hL⟩ := X
  have hx := C.1.1
  have hb := C.1.2.1
  obtain ⟨rx, σ1, rm, σ2, k, o2, e1, e2, I2, hk, hth, hval⟩ := (op_area (xs (i + 1)) (xs (i + 2)) (xs (i + 3))).law (by decide) hI o
  refine lv_aload_n hx hb dL_law_184 rfl (lv_at hl 2 rfl) ?_
  refine lv_aload_n hx hb dL_law_185 rfl (lv_at hl 1 rfl) ?_
  refine lv_iload hx hb dL_law_186 (lv_at hl 0 rfl) ?_
  refine lv_iconst (v := (1 : Int32)) hx hb dL_law_188 (by decide) ?_
  refine lv_iadd hx hb dL_law_189 ?_
  refine g_sld hx hb hX hbl I (i := i) (j := 1) (by omega) hL (nI_add i 1) dL_law_190 ?_
  refine lv_aload_n hx hb dL_law_191 rfl (lv_at hl 1 rfl) ?_
  refine lv_iload hx hb dL_law_192 (lv_at hl 0 rfl) ?_
  refine lv_iconst (v := (2 : Int32)) hx hb dL_law_194 (by decide) ?_
  refine lv_iadd hx hb dL_law_195 ?_
  refine g_sld hx hb hX hbl I (i := i) (j := 2) (by omega) hL (nI_add i 2) dL_law_196 ?_
  refine lv_aload_n hx hb dL_law_197 rfl (lv_at hl 1 rfl) ?_
  refine lv_iload hx hb dL_law_198 (lv_at hl 0 rfl) ?_
  refine lv_iconst (v := (3 : Int32)) hx hb dL_law_200 (by decide) ?_
  refine lv_iadd hx hb dL_law_201 ?_
  refine g_sld hx hb hX hbl I (i := i) (j := 3) (by omega) hL (nI_add i 3) dL_law_202 ?_
  refine lv_aload_n hx hb dL_law_203 rfl (lv_at hl 4 rfl) ?_
  refine g_help (av := [.ref (ad E 0), .int (xs (i + 1)), .int (xs (i + 2)), .int (xs (i + 3)), .ref (ad E 56)]) (rest := []) C I hZ hN hNy (c_L_area l hst E o (xs (i + 1)) (xs (i + 2)) (xs (i + 3)) σ e1 hk) (vx_cwSW 5 C.1.2.2.2.2 gL_law_L_area rfl rfl rfl (by decide +kernel) ⟨Nat.le_of_ble_eq_true rfl, Nat.le_of_ble_eq_true rfl⟩) rfl hl.1 rfl (Nat.le_of_ble_eq_true rfl) ⟨by show cells + 2 ≤ 601024; omega, by show slots + 12 ≤ 7293034; omega⟩ dL_law_204 (fun H locs I => ?_)
  refine lv_istore (lv' := [(5, .int k), (4, .int (nI i)), (0, .ref b), (1, .ref (ad E 0)), (2, .ref (ad E 39)), (3, .ref (ad E 56))]) hx hb dL_law_207 hl (by decide) rfl (fun ls hl => ?_)
  refine lv_aload_n hx hb dL_law_209 rfl (lv_at hl 4 rfl) ?_
  refine lv_aload_n hx hb dL_law_210 rfl (lv_at hl 2 rfl) ?_
  refine lv_iload hx hb dL_law_211 (lv_at hl 1 rfl) ?_
  refine lv_iconst (v := (1 : Int32)) hx hb dL_law_213 (by decide) ?_
  refine lv_iadd hx hb dL_law_214 ?_
  refine g_sld hx hb hX hbl I (i := i) (j := 1) (by omega) hL (nI_add i 1) dL_law_215 ?_
  refine lv_aload_n hx hb dL_law_216 rfl (lv_at hl 2 rfl) ?_
  refine lv_iload hx hb dL_law_217 (lv_at hl 1 rfl) ?_
  refine lv_iconst (v := (2 : Int32)) hx hb dL_law_219 (by decide) ?_
  refine lv_iadd hx hb dL_law_220 ?_
  refine g_sld hx hb hX hbl I (i := i) (j := 2) (by omega) hL (nI_add i 2) dL_law_221 ?_
  refine lv_aload_n hx hb dL_law_222 rfl (lv_at hl 2 rfl) ?_
  refine lv_iload hx hb dL_law_223 (lv_at hl 1 rfl) ?_
  refine lv_iconst (v := (3 : Int32)) hx hb dL_law_225 (by decide) ?_
  refine lv_iadd hx hb dL_law_226 ?_
  refine g_sld hx hb hX hbl I (i := i) (j := 3) (by omega) hL (nI_add i 3) dL_law_227 ?_
  refine g_cvi (av := [.int (xs (i + 1)), .int (xs (i + 2)), .int (xs (i + 3))]) (rest := []) (k := 39) C I (fun _ h => h) (c_X5_area l E o2 (xs (i + 1)) (xs (i + 2)) (xs (i + 3)) σ1 e2) (cwV 3 C.1.2.2.2.2 gL_law_X5_area rfl rfl rfl (by decide +kernel) ⟨Nat.le_of_ble_eq_true rfl, Nat.le_of_ble_eq_true rfl⟩) (by decide) (gk_39 E o2 _) rfl rfl rfl hl.1 rfl (Nat.le_of_ble_eq_true rfl) ⟨by show (cells + 2) ≤ 601024; omega, by show (slots + 12) ≤ 7293034; omega⟩ dL_law_228 (fun H locs I => ?_)
  refine lv_istore (lv' := [(6, .int rm), (5, .int k), (4, .int (nI i)), (0, .ref b), (1, .ref (ad E 0)), (2, .ref (ad E 39)), (3, .ref (ad E 56))]) hx hb dL_law_231 hl (by decide) rfl (fun ls hl => ?_)
  refine lv_aload_n hx hb dL_law_233 rfl (lv_at hl 5 rfl) ?_
  refine g_cvi (av := []) (rest := []) (k := 39) C I (fun _ h => h) (c_X5_thrown l E o2 σ2 (f_thrown σ2)) (cwV 0 C.1.2.2.2.2 gL_law_X5_thrown rfl rfl rfl (by decide +kernel) ⟨Nat.le_of_ble_eq_true rfl, Nat.le_of_ble_eq_true rfl⟩) (by decide) (gk_39 E o2 _) rfl rfl rfl hl.1 rfl (Nat.le_of_ble_eq_true rfl) ⟨by show (cells + 2) ≤ 601024; omega, by show (slots + 12) ≤ 7293034; omega⟩ dL_law_234 (fun H locs I => ?_)
  refine lv_iload hx hb dL_law_237 (lv_at hl 1 rfl) ?_
  refine lv_icmp_eq (tgt := 244) hx hb dL_law_239 (by decide) (fun c_239 => ?_) (fun c_239 => ?_)
  · refine lv_iload hx hb dL_law_244 (lv_at hl 1 rfl) ?_
    refine lv_if_ne (tgt := 261) hx hb dL_law_246 (by decide) (fun c_246 => ?_) (fun c_246 => ?_)
    · refine lv_goto (tgt := 1048) hx hb dL_law_261 (by decide) ?_
      refine lv_iinc (v := nI (i + 7)) (lv' := [(4, .int (nI (i + 7))), (6, .int rm), (5, .int k), (0, .ref b), (1, .ref (ad E 0)), (2, .ref (ad E 39)), (3, .ref (ad E 56))]) hx hb dL_law_1048 hl (k := 2) rfl (nI_add i 7) (by decide) rfl (fun ls hl => ?_)
      refine lv_goto (tgt := 23) hx hb dL_law_1051 (by decide) ?_
      exact ih o2 σ2 H locs ls _ _ (by omega) (by omega) I2 I (lv_sub hl [0, 3, 4, 5, 6] rfl)
    · have hkz : k = 0 := Decidable.byContradiction (fun q => absurd q (by simpa using c_246))
      refine lv_aload_n hx hb dL_law_249 rfl (lv_at hl 6 rfl) ?_
      refine lv_iconst (v := (0 : Int32)) hx hb dL_law_250 (by decide) ?_
      refine g_lald C I dL_law_251 ?_
      refine lv_iload hx hb dL_law_252 (lv_at hl 0 rfl) ?_
      refine lv_i2l (v := rm.toInt64) hx hb dL_law_254 rfl ?_
      refine W.lcmp hx hb dL_law_255 ?_
      refine lv_if_eq (tgt := 261) hx hb dL_law_256 (by decide) (fun c_256 => ?_) (fun c_256 => ?_)
      · refine lv_goto (tgt := 1048) hx hb dL_law_261 (by decide) ?_
        refine lv_iinc (v := nI (i + 7)) (lv' := [(4, .int (nI (i + 7))), (6, .int rm), (5, .int k), (0, .ref b), (1, .ref (ad E 0)), (2, .ref (ad E 39)), (3, .ref (ad E 56))]) hx hb dL_law_1048 hl (k := 2) rfl (nI_add i 7) (by decide) rfl (fun ls hl => ?_)
        refine lv_goto (tgt := 23) hx hb dL_law_1051 (by decide) ?_
        exact ih o2 σ2 H locs ls _ _ (by omega) (by omega) I2 I (lv_sub hl [0, 3, 4, 5, 6] rfl)
      · exact absurd ((lg_cmp_eq _ _).mpr (hval hkz)) c_256
  · exact absurd hth c_239
set_option maxHeartbeats 4000000 in
set_option maxRecDepth 100000 in
theorem law_unit {p : Program} {l : Launch} {e : Env} {s : State} {m : MethodId} {b : Nat} {below : List Frame} {meth : Method} {c : Code} {E : En} {L : Nat} {xs : Nat → Int32} {i cells slots : Nat} (X : Lx p l c s m meth E b L xs) (hi : i + 7 ≤ L) (hc : cells + 3 ≤ 601024) (hs : slots + 18 ≤ 7293034) (ih : Nxt p l e s m b below meth c E i cells slots) (o : Int64) (σ : St) (H : Heap) (locs : List Loc) (ls : Array Slot) (hI : Inv σ) (I : Iv E (AL s) s.heap o σ H locs) (hl : lv_has ls 7 (lvL E b i)) : LW p l e s m b below meth c H locs cells slots (F0 m 264 ls []) := by
  obtain ⟨C, hst, hlocks, hr, hZ, hN, hNy, hX, hbl, hL⟩ := X
  have hx := C.1.1
  have hb := C.1.2.1
  obtain ⟨rx, σ1, rm, σ2, k, o2, e1, e2, I2, hk, hth, hval⟩ := (op_unit (xs (i + 1))).law (by decide) hI o
  refine lv_aload_n hx hb dL_law_264 rfl (lv_at hl 2 rfl) ?_
  refine lv_aload_n hx hb dL_law_265 rfl (lv_at hl 1 rfl) ?_
  refine lv_iload hx hb dL_law_266 (lv_at hl 0 rfl) ?_
  refine lv_iconst (v := (1 : Int32)) hx hb dL_law_268 (by decide) ?_
  refine lv_iadd hx hb dL_law_269 ?_
  refine g_sld hx hb hX hbl I (i := i) (j := 1) (by omega) hL (nI_add i 1) dL_law_270 ?_
  refine lv_aload_n hx hb dL_law_271 rfl (lv_at hl 4 rfl) ?_
  refine g_help (av := [.ref (ad E 0), .int (xs (i + 1)), .ref (ad E 56)]) (rest := []) C I hZ hN hNy (c_L_unit l hst E o (xs (i + 1)) σ e1 hk) (vx_cwSW 3 C.1.2.2.2.2 gL_law_L_unit rfl rfl rfl (by decide +kernel) ⟨Nat.le_of_ble_eq_true rfl, Nat.le_of_ble_eq_true rfl⟩) rfl hl.1 rfl (Nat.le_of_ble_eq_true rfl) ⟨by show cells + 3 ≤ 601024; omega, by show slots + 18 ≤ 7293034; omega⟩ dL_law_272 (fun H locs I => ?_)
  refine lv_istore (lv' := [(5, .int k), (4, .int (nI i)), (0, .ref b), (1, .ref (ad E 0)), (2, .ref (ad E 39)), (3, .ref (ad E 56))]) hx hb dL_law_275 hl (by decide) rfl (fun ls hl => ?_)
  refine lv_aload_n hx hb dL_law_277 rfl (lv_at hl 4 rfl) ?_
  refine lv_aload_n hx hb dL_law_278 rfl (lv_at hl 2 rfl) ?_
  refine lv_iload hx hb dL_law_279 (lv_at hl 1 rfl) ?_
  refine lv_iconst (v := (1 : Int32)) hx hb dL_law_281 (by decide) ?_
  refine lv_iadd hx hb dL_law_282 ?_
  refine g_sld hx hb hX hbl I (i := i) (j := 1) (by omega) hL (nI_add i 1) dL_law_283 ?_
  refine g_cvi (av := [.int (xs (i + 1))]) (rest := []) (k := 39) C I (fun _ h => h) (c_X5_unit l E o2 (xs (i + 1)) σ1 e2) (cwV 1 C.1.2.2.2.2 gL_law_X5_unit rfl rfl rfl (by decide +kernel) ⟨Nat.le_of_ble_eq_true rfl, Nat.le_of_ble_eq_true rfl⟩) (by decide) (gk_39 E o2 _) rfl rfl rfl hl.1 rfl (Nat.le_of_ble_eq_true rfl) ⟨by show (cells + 3) ≤ 601024; omega, by show (slots + 18) ≤ 7293034; omega⟩ dL_law_284 (fun H locs I => ?_)
  refine lv_istore (lv' := [(6, .int rm), (5, .int k), (4, .int (nI i)), (0, .ref b), (1, .ref (ad E 0)), (2, .ref (ad E 39)), (3, .ref (ad E 56))]) hx hb dL_law_287 hl (by decide) rfl (fun ls hl => ?_)
  refine lv_aload_n hx hb dL_law_289 rfl (lv_at hl 5 rfl) ?_
  refine g_cvi (av := []) (rest := []) (k := 39) C I (fun _ h => h) (c_X5_thrown l E o2 σ2 (f_thrown σ2)) (cwV 0 C.1.2.2.2.2 gL_law_X5_thrown rfl rfl rfl (by decide +kernel) ⟨Nat.le_of_ble_eq_true rfl, Nat.le_of_ble_eq_true rfl⟩) (by decide) (gk_39 E o2 _) rfl rfl rfl hl.1 rfl (Nat.le_of_ble_eq_true rfl) ⟨by show (cells + 3) ≤ 601024; omega, by show (slots + 18) ≤ 7293034; omega⟩ dL_law_290 (fun H locs I => ?_)
  refine lv_iload hx hb dL_law_293 (lv_at hl 1 rfl) ?_
  refine lv_icmp_eq (tgt := 300) hx hb dL_law_295 (by decide) (fun c_295 => ?_) (fun c_295 => ?_)
  · refine lv_iload hx hb dL_law_300 (lv_at hl 1 rfl) ?_
    refine lv_if_ne (tgt := 317) hx hb dL_law_302 (by decide) (fun c_302 => ?_) (fun c_302 => ?_)
    · refine lv_goto (tgt := 1048) hx hb dL_law_317 (by decide) ?_
      refine lv_iinc (v := nI (i + 7)) (lv' := [(4, .int (nI (i + 7))), (6, .int rm), (5, .int k), (0, .ref b), (1, .ref (ad E 0)), (2, .ref (ad E 39)), (3, .ref (ad E 56))]) hx hb dL_law_1048 hl (k := 2) rfl (nI_add i 7) (by decide) rfl (fun ls hl => ?_)
      refine lv_goto (tgt := 23) hx hb dL_law_1051 (by decide) ?_
      exact ih o2 σ2 H locs ls _ _ (by omega) (by omega) I2 I (lv_sub hl [0, 3, 4, 5, 6] rfl)
    · have hkz : k = 0 := Decidable.byContradiction (fun q => absurd q (by simpa using c_302))
      refine lv_aload_n hx hb dL_law_305 rfl (lv_at hl 6 rfl) ?_
      refine lv_iconst (v := (0 : Int32)) hx hb dL_law_306 (by decide) ?_
      refine g_lald C I dL_law_307 ?_
      refine lv_iload hx hb dL_law_308 (lv_at hl 0 rfl) ?_
      refine lv_i2l (v := rm.toInt64) hx hb dL_law_310 rfl ?_
      refine W.lcmp hx hb dL_law_311 ?_
      refine lv_if_eq (tgt := 317) hx hb dL_law_312 (by decide) (fun c_312 => ?_) (fun c_312 => ?_)
      · refine lv_goto (tgt := 1048) hx hb dL_law_317 (by decide) ?_
        refine lv_iinc (v := nI (i + 7)) (lv' := [(4, .int (nI (i + 7))), (6, .int rm), (5, .int k), (0, .ref b), (1, .ref (ad E 0)), (2, .ref (ad E 39)), (3, .ref (ad E 56))]) hx hb dL_law_1048 hl (k := 2) rfl (nI_add i 7) (by decide) rfl (fun ls hl => ?_)
        refine lv_goto (tgt := 23) hx hb dL_law_1051 (by decide) ?_
        exact ih o2 σ2 H locs ls _ _ (by omega) (by omega) I2 I (lv_sub hl [0, 3, 4, 5, 6] rfl)
      · exact absurd ((lg_cmp_eq _ _).mpr (hval hkz)) c_312
  · exact absurd hth c_295
set_option maxHeartbeats 4000000 in
set_option maxRecDepth 100000 in
theorem law_change {p : Program} {l : Launch} {e : Env} {s : State} {m : MethodId} {b : Nat} {below : List Frame} {meth : Method} {c : Code} {E : En} {L : Nat} {xs : Nat → Int32} {i cells slots : Nat} (X : Lx p l c s m meth E b L xs) (hi : i + 7 ≤ L) (hc : cells + 3 ≤ 601024) (hs : slots + 18 ≤ 7293034) (ih : Nxt p l e s m b below meth c E i cells slots) (o : Int64) (σ : St) (H : Heap) (locs : List Loc) (ls : Array Slot) (hI : Inv σ) (I : Iv E (AL s) s.heap o σ H locs) (hl : lv_has ls 7 (lvL E b i)) : LW p l e s m b below meth c H locs cells slots (F0 m 320 ls []) := by
  obtain ⟨C, hst, hlocks, hr, hZ, hN, hNy, hX, hbl, hL⟩ := X
  have hx := C.1.1
  have hb := C.1.2.1
  obtain ⟨rx, σ1, rm, σ2, k, o2, e1, e2, I2, hk, hth⟩ := (op_change (xs (i + 1)) (xs (i + 2)) (xs (i + 3))).lawV hI o
  refine lv_aload_n hx hb dL_law_320 rfl (lv_at hl 2 rfl) ?_
  refine lv_aload_n hx hb dL_law_321 rfl (lv_at hl 1 rfl) ?_
  refine lv_iload hx hb dL_law_322 (lv_at hl 0 rfl) ?_
  refine lv_iconst (v := (1 : Int32)) hx hb dL_law_324 (by decide) ?_
  refine lv_iadd hx hb dL_law_325 ?_
  refine g_sld hx hb hX hbl I (i := i) (j := 1) (by omega) hL (nI_add i 1) dL_law_326 ?_
  refine lv_aload_n hx hb dL_law_327 rfl (lv_at hl 1 rfl) ?_
  refine lv_iload hx hb dL_law_328 (lv_at hl 0 rfl) ?_
  refine lv_iconst (v := (2 : Int32)) hx hb dL_law_330 (by decide) ?_
  refine lv_iadd hx hb dL_law_331 ?_
  refine g_sld hx hb hX hbl I (i := i) (j := 2) (by omega) hL (nI_add i 2) dL_law_332 ?_
  refine lv_aload_n hx hb dL_law_333 rfl (lv_at hl 1 rfl) ?_
  refine lv_iload hx hb dL_law_334 (lv_at hl 0 rfl) ?_
  refine lv_iconst (v := (3 : Int32)) hx hb dL_law_336 (by decide) ?_
  refine lv_iadd hx hb dL_law_337 ?_
  refine g_sld hx hb hX hbl I (i := i) (j := 3) (by omega) hL (nI_add i 3) dL_law_338 ?_
  refine g_help (av := [.ref (ad E 0), .int (xs (i + 1)), .int (xs (i + 2)), .int (xs (i + 3))]) (rest := []) C I hZ hN hNy (c_L_change l hst E o (xs (i + 1)) (xs (i + 2)) (xs (i + 3)) σ e1 hk) (vx_cwSW 4 C.1.2.2.2.2 gL_law_L_change rfl rfl rfl (by decide +kernel) ⟨Nat.le_of_ble_eq_true rfl, Nat.le_of_ble_eq_true rfl⟩) rfl hl.1 rfl (Nat.le_of_ble_eq_true rfl) ⟨by show cells + 3 ≤ 601024; omega, by show slots + 18 ≤ 7293034; omega⟩ dL_law_339 (fun H locs I => ?_)
  refine lv_istore (lv' := [(5, .int k), (4, .int (nI i)), (0, .ref b), (1, .ref (ad E 0)), (2, .ref (ad E 39)), (3, .ref (ad E 56))]) hx hb dL_law_342 hl (by decide) rfl (fun ls hl => ?_)
  refine lv_aload_n hx hb dL_law_344 rfl (lv_at hl 4 rfl) ?_
  refine lv_aload_n hx hb dL_law_345 rfl (lv_at hl 2 rfl) ?_
  refine lv_iload hx hb dL_law_346 (lv_at hl 1 rfl) ?_
  refine lv_iconst (v := (1 : Int32)) hx hb dL_law_348 (by decide) ?_
  refine lv_iadd hx hb dL_law_349 ?_
  refine g_sld hx hb hX hbl I (i := i) (j := 1) (by omega) hL (nI_add i 1) dL_law_350 ?_
  refine lv_aload_n hx hb dL_law_351 rfl (lv_at hl 2 rfl) ?_
  refine lv_iload hx hb dL_law_352 (lv_at hl 1 rfl) ?_
  refine lv_iconst (v := (2 : Int32)) hx hb dL_law_354 (by decide) ?_
  refine lv_iadd hx hb dL_law_355 ?_
  refine g_sld hx hb hX hbl I (i := i) (j := 2) (by omega) hL (nI_add i 2) dL_law_356 ?_
  refine lv_aload_n hx hb dL_law_357 rfl (lv_at hl 2 rfl) ?_
  refine lv_iload hx hb dL_law_358 (lv_at hl 1 rfl) ?_
  refine lv_iconst (v := (3 : Int32)) hx hb dL_law_360 (by decide) ?_
  refine lv_iadd hx hb dL_law_361 ?_
  refine g_sld hx hb hX hbl I (i := i) (j := 3) (by omega) hL (nI_add i 3) dL_law_362 ?_
  refine g_cvv (av := [.int (xs (i + 1)), .int (xs (i + 2)), .int (xs (i + 3))]) (rest := []) (k := 39) C I (fun _ h => h) (c_X5_change l E o2 (xs (i + 1)) (xs (i + 2)) (xs (i + 3)) σ1 e2) (cwV 3 C.1.2.2.2.2 gL_law_X5_change rfl rfl rfl (by decide +kernel) ⟨Nat.le_of_ble_eq_true rfl, Nat.le_of_ble_eq_true rfl⟩) (by decide) (gk_39 E o2 _) rfl rfl rfl hl.1 rfl (Nat.le_of_ble_eq_true rfl) ⟨by show (cells + 3) ≤ 601024; omega, by show (slots + 18) ≤ 7293034; omega⟩ dL_law_363 (fun H locs I => ?_)
  refine lv_aload_n hx hb dL_law_366 rfl (lv_at hl 4 rfl) ?_
  refine g_cvi (av := []) (rest := []) (k := 39) C I (fun _ h => h) (c_X5_thrown l E o2 σ2 (f_thrown σ2)) (cwV 0 C.1.2.2.2.2 gL_law_X5_thrown rfl rfl rfl (by decide +kernel) ⟨Nat.le_of_ble_eq_true rfl, Nat.le_of_ble_eq_true rfl⟩) (by decide) (gk_39 E o2 _) rfl rfl rfl hl.1 rfl (Nat.le_of_ble_eq_true rfl) ⟨by show (cells + 3) ≤ 601024; omega, by show (slots + 18) ≤ 7293034; omega⟩ dL_law_367 (fun H locs I => ?_)
  refine lv_iload hx hb dL_law_370 (lv_at hl 0 rfl) ?_
  refine lv_icmp_eq (tgt := 377) hx hb dL_law_372 (by decide) (fun c_372 => ?_) (fun c_372 => ?_)
  · refine lv_goto (tgt := 1048) hx hb dL_law_377 (by decide) ?_
    refine lv_iinc (v := nI (i + 7)) (lv' := [(4, .int (nI (i + 7))), (5, .int k), (0, .ref b), (1, .ref (ad E 0)), (2, .ref (ad E 39)), (3, .ref (ad E 56))]) hx hb dL_law_1048 hl (k := 1) rfl (nI_add i 7) (by decide) rfl (fun ls hl => ?_)
    refine lv_goto (tgt := 23) hx hb dL_law_1051 (by decide) ?_
    exact ih o2 σ2 H locs ls _ _ (by omega) (by omega) I2 I (lv_sub hl [0, 2, 3, 4, 5] rfl)
  · exact absurd hth c_372
set_option maxHeartbeats 4000000 in
set_option maxRecDepth 100000 in
theorem law_rules {p : Program} {l : Launch} {e : Env} {s : State} {m : MethodId} {b : Nat} {below : List Frame} {meth : Method} {c : Code} {E : En} {L : Nat} {xs : Nat → Int32} {i cells slots : Nat} (X : Lx p l c s m meth E b L xs) (hi : i + 7 ≤ L) (hc : cells + 3 ≤ 601024) (hs : slots + 18 ≤ 7293034) (ih : Nxt p l e s m b below meth c E i cells slots) (o : Int64) (σ : St) (H : Heap) (locs : List Loc) (ls : Array Slot) (hI : Inv σ) (I : Iv E (AL s) s.heap o σ H locs) (hl : lv_has ls 7 (lvL E b i)) : LW p l e s m b below meth c H locs cells slots (F0 m 380 ls []) := by
  obtain ⟨C, hst, hlocks, hr, hZ, hN, hNy, hX, hbl, hL⟩ := X
  have hx := C.1.1
  have hb := C.1.2.1
  obtain ⟨rx, σ1, rm, σ2, k, o2, e1, e2, I2, hk, hth⟩ := (op_rules (xs (i + 1)) (xs (i + 2))).lawV hI o
  refine lv_aload_n hx hb dL_law_380 rfl (lv_at hl 2 rfl) ?_
  refine lv_aload_n hx hb dL_law_381 rfl (lv_at hl 1 rfl) ?_
  refine lv_iload hx hb dL_law_382 (lv_at hl 0 rfl) ?_
  refine lv_iconst (v := (1 : Int32)) hx hb dL_law_384 (by decide) ?_
  refine lv_iadd hx hb dL_law_385 ?_
  refine g_sld hx hb hX hbl I (i := i) (j := 1) (by omega) hL (nI_add i 1) dL_law_386 ?_
  refine lv_aload_n hx hb dL_law_387 rfl (lv_at hl 1 rfl) ?_
  refine lv_iload hx hb dL_law_388 (lv_at hl 0 rfl) ?_
  refine lv_iconst (v := (2 : Int32)) hx hb dL_law_390 (by decide) ?_
  refine lv_iadd hx hb dL_law_391 ?_
  refine g_sld hx hb hX hbl I (i := i) (j := 2) (by omega) hL (nI_add i 2) dL_law_392 ?_
  refine g_help (av := [.ref (ad E 0), .int (xs (i + 1)), .int (xs (i + 2))]) (rest := []) C I hZ hN hNy (c_L_rules l hst E o (xs (i + 1)) (xs (i + 2)) σ e1 hk) (vx_cwSW 3 C.1.2.2.2.2 gL_law_L_rules rfl rfl rfl (by decide +kernel) ⟨Nat.le_of_ble_eq_true rfl, Nat.le_of_ble_eq_true rfl⟩) rfl hl.1 rfl (Nat.le_of_ble_eq_true rfl) ⟨by show cells + 1 ≤ 601024; omega, by show slots + 6 ≤ 7293034; omega⟩ dL_law_393 (fun H locs I => ?_)
  refine lv_istore (lv' := [(5, .int k), (4, .int (nI i)), (0, .ref b), (1, .ref (ad E 0)), (2, .ref (ad E 39)), (3, .ref (ad E 56))]) hx hb dL_law_396 hl (by decide) rfl (fun ls hl => ?_)
  refine lv_aload_n hx hb dL_law_398 rfl (lv_at hl 4 rfl) ?_
  refine lv_aload_n hx hb dL_law_399 rfl (lv_at hl 2 rfl) ?_
  refine lv_iload hx hb dL_law_400 (lv_at hl 1 rfl) ?_
  refine lv_iconst (v := (1 : Int32)) hx hb dL_law_402 (by decide) ?_
  refine lv_iadd hx hb dL_law_403 ?_
  refine g_sld hx hb hX hbl I (i := i) (j := 1) (by omega) hL (nI_add i 1) dL_law_404 ?_
  refine lv_aload_n hx hb dL_law_405 rfl (lv_at hl 2 rfl) ?_
  refine lv_iload hx hb dL_law_406 (lv_at hl 1 rfl) ?_
  refine lv_iconst (v := (2 : Int32)) hx hb dL_law_408 (by decide) ?_
  refine lv_iadd hx hb dL_law_409 ?_
  refine g_sld hx hb hX hbl I (i := i) (j := 2) (by omega) hL (nI_add i 2) dL_law_410 ?_
  refine g_cvv (av := [.int (xs (i + 1)), .int (xs (i + 2))]) (rest := []) (k := 39) C I (fun _ h => h) (c_X5_rules l E o2 (xs (i + 1)) (xs (i + 2)) σ1 e2) (cwV 2 C.1.2.2.2.2 gL_law_X5_rules rfl rfl rfl (by decide +kernel) ⟨Nat.le_of_ble_eq_true rfl, Nat.le_of_ble_eq_true rfl⟩) (by decide) (gk_39 E o2 _) rfl rfl rfl hl.1 rfl (Nat.le_of_ble_eq_true rfl) ⟨by show (cells + 1) ≤ 601024; omega, by show (slots + 6) ≤ 7293034; omega⟩ dL_law_411 (fun H locs I => ?_)
  refine lv_aload_n hx hb dL_law_414 rfl (lv_at hl 4 rfl) ?_
  refine g_cvi (av := []) (rest := []) (k := 39) C I (fun _ h => h) (c_X5_thrown l E o2 σ2 (f_thrown σ2)) (cwV 0 C.1.2.2.2.2 gL_law_X5_thrown rfl rfl rfl (by decide +kernel) ⟨Nat.le_of_ble_eq_true rfl, Nat.le_of_ble_eq_true rfl⟩) (by decide) (gk_39 E o2 _) rfl rfl rfl hl.1 rfl (Nat.le_of_ble_eq_true rfl) ⟨by show (cells + 1) ≤ 601024; omega, by show (slots + 6) ≤ 7293034; omega⟩ dL_law_415 (fun H locs I => ?_)
  refine lv_iload hx hb dL_law_418 (lv_at hl 0 rfl) ?_
  refine lv_icmp_eq (tgt := 425) hx hb dL_law_420 (by decide) (fun c_420 => ?_) (fun c_420 => ?_)
  · refine lv_goto (tgt := 1048) hx hb dL_law_425 (by decide) ?_
    refine lv_iinc (v := nI (i + 7)) (lv' := [(4, .int (nI (i + 7))), (5, .int k), (0, .ref b), (1, .ref (ad E 0)), (2, .ref (ad E 39)), (3, .ref (ad E 56))]) hx hb dL_law_1048 hl (k := 1) rfl (nI_add i 7) (by decide) rfl (fun ls hl => ?_)
    refine lv_goto (tgt := 23) hx hb dL_law_1051 (by decide) ?_
    exact ih o2 σ2 H locs ls _ _ (by omega) (by omega) I2 I (lv_sub hl [0, 2, 3, 4, 5] rfl)
  · exact absurd hth c_420
set_option maxHeartbeats 4000000 in
set_option maxRecDepth 100000 in
theorem law_run {p : Program} {l : Launch} {e : Env} {s : State} {m : MethodId} {b : Nat} {below : List Frame} {meth : Method} {c : Code} {E : En} {L : Nat} {xs : Nat → Int32} {i cells slots : Nat} (X : Lx p l c s m meth E b L xs) (hi : i + 7 ≤ L) (hc : cells + 3 ≤ 601024) (hs : slots + 18 ≤ 7293034) (ih : Nxt p l e s m b below meth c E i cells slots) (o : Int64) (σ : St) (H : Heap) (locs : List Loc) (ls : Array Slot) (hI : Inv σ) (I : Iv E (AL s) s.heap o σ H locs) (hl : lv_has ls 7 (lvL E b i)) : LW p l e s m b below meth c H locs cells slots (F0 m 428 ls []) := by
  obtain ⟨C, hst, hlocks, hr, hZ, hN, hNy, hX, hbl, hL⟩ := X
  have hx := C.1.1
  have hb := C.1.2.1
  obtain ⟨rx, σ1, rm, σ2, k, o2, e1, e2, I2, hk, hth, hval⟩ := (op_run (xs (i + 1)) (xs (i + 2)) (xs (i + 3)) (xs (i + 4))).law (by decide) hI o
  refine lv_aload_n hx hb dL_law_428 rfl (lv_at hl 2 rfl) ?_
  refine lv_aload_n hx hb dL_law_429 rfl (lv_at hl 1 rfl) ?_
  refine lv_iload hx hb dL_law_430 (lv_at hl 0 rfl) ?_
  refine lv_iconst (v := (1 : Int32)) hx hb dL_law_432 (by decide) ?_
  refine lv_iadd hx hb dL_law_433 ?_
  refine g_sld hx hb hX hbl I (i := i) (j := 1) (by omega) hL (nI_add i 1) dL_law_434 ?_
  refine lv_aload_n hx hb dL_law_435 rfl (lv_at hl 1 rfl) ?_
  refine lv_iload hx hb dL_law_436 (lv_at hl 0 rfl) ?_
  refine lv_iconst (v := (2 : Int32)) hx hb dL_law_438 (by decide) ?_
  refine lv_iadd hx hb dL_law_439 ?_
  refine g_sld hx hb hX hbl I (i := i) (j := 2) (by omega) hL (nI_add i 2) dL_law_440 ?_
  refine lv_aload_n hx hb dL_law_441 rfl (lv_at hl 1 rfl) ?_
  refine lv_iload hx hb dL_law_442 (lv_at hl 0 rfl) ?_
  refine lv_iconst (v := (3 : Int32)) hx hb dL_law_444 (by decide) ?_
  refine lv_iadd hx hb dL_law_445 ?_
  refine g_sld hx hb hX hbl I (i := i) (j := 3) (by omega) hL (nI_add i 3) dL_law_446 ?_
  refine lv_aload_n hx hb dL_law_447 rfl (lv_at hl 1 rfl) ?_
  refine lv_iload hx hb dL_law_448 (lv_at hl 0 rfl) ?_
  refine lv_iconst (v := (4 : Int32)) hx hb dL_law_450 (by decide) ?_
  refine lv_iadd hx hb dL_law_451 ?_
  refine g_sld hx hb hX hbl I (i := i) (j := 4) (by omega) hL (nI_add i 4) dL_law_452 ?_
  refine lv_aload_n hx hb dL_law_453 rfl (lv_at hl 4 rfl) ?_
  refine g_help (av := [.ref (ad E 0), .int (xs (i + 1)), .int (xs (i + 2)), .int (xs (i + 3)), .int (xs (i + 4)), .ref (ad E 56)]) (rest := []) C I hZ hN hNy (c_L_run l hst E o (xs (i + 1)) (xs (i + 2)) (xs (i + 3)) (xs (i + 4)) σ e1 hk) (vx_cwSW 6 C.1.2.2.2.2 gL_law_L_run rfl rfl rfl (by decide +kernel) ⟨Nat.le_of_ble_eq_true rfl, Nat.le_of_ble_eq_true rfl⟩) rfl hl.1 rfl (Nat.le_of_ble_eq_true rfl) ⟨by show cells + 3 ≤ 601024; omega, by show slots + 18 ≤ 7293034; omega⟩ dL_law_454 (fun H locs I => ?_)
  refine lv_istore (lv' := [(5, .int k), (4, .int (nI i)), (0, .ref b), (1, .ref (ad E 0)), (2, .ref (ad E 39)), (3, .ref (ad E 56))]) hx hb dL_law_457 hl (by decide) rfl (fun ls hl => ?_)
  refine lv_aload_n hx hb dL_law_459 rfl (lv_at hl 4 rfl) ?_
  refine lv_aload_n hx hb dL_law_460 rfl (lv_at hl 2 rfl) ?_
  refine lv_iload hx hb dL_law_461 (lv_at hl 1 rfl) ?_
  refine lv_iconst (v := (1 : Int32)) hx hb dL_law_463 (by decide) ?_
  refine lv_iadd hx hb dL_law_464 ?_
  refine g_sld hx hb hX hbl I (i := i) (j := 1) (by omega) hL (nI_add i 1) dL_law_465 ?_
  refine lv_aload_n hx hb dL_law_466 rfl (lv_at hl 2 rfl) ?_
  refine lv_iload hx hb dL_law_467 (lv_at hl 1 rfl) ?_
  refine lv_iconst (v := (2 : Int32)) hx hb dL_law_469 (by decide) ?_
  refine lv_iadd hx hb dL_law_470 ?_
  refine g_sld hx hb hX hbl I (i := i) (j := 2) (by omega) hL (nI_add i 2) dL_law_471 ?_
  refine lv_aload_n hx hb dL_law_472 rfl (lv_at hl 2 rfl) ?_
  refine lv_iload hx hb dL_law_473 (lv_at hl 1 rfl) ?_
  refine lv_iconst (v := (3 : Int32)) hx hb dL_law_475 (by decide) ?_
  refine lv_iadd hx hb dL_law_476 ?_
  refine g_sld hx hb hX hbl I (i := i) (j := 3) (by omega) hL (nI_add i 3) dL_law_477 ?_
  refine lv_aload_n hx hb dL_law_478 rfl (lv_at hl 2 rfl) ?_
  refine lv_iload hx hb dL_law_479 (lv_at hl 1 rfl) ?_
  refine lv_iconst (v := (4 : Int32)) hx hb dL_law_481 (by decide) ?_
  refine lv_iadd hx hb dL_law_482 ?_
  refine g_sld hx hb hX hbl I (i := i) (j := 4) (by omega) hL (nI_add i 4) dL_law_483 ?_
  refine g_cvi (av := [.int (xs (i + 1)), .int (xs (i + 2)), .int (xs (i + 3)), .int (xs (i + 4))]) (rest := []) (k := 39) C I (fun _ h => h) (c_X5_run l E o2 (xs (i + 1)) (xs (i + 2)) (xs (i + 3)) (xs (i + 4)) σ1 e2) (cwV 4 C.1.2.2.2.2 gL_law_X5_run rfl rfl rfl (by decide +kernel) ⟨Nat.le_of_ble_eq_true rfl, Nat.le_of_ble_eq_true rfl⟩) (by decide) (gk_39 E o2 _) rfl rfl rfl hl.1 rfl (Nat.le_of_ble_eq_true rfl) ⟨by show (cells + 3) ≤ 601024; omega, by show (slots + 18) ≤ 7293034; omega⟩ dL_law_484 (fun H locs I => ?_)
  refine lv_istore (lv' := [(6, .int rm), (5, .int k), (4, .int (nI i)), (0, .ref b), (1, .ref (ad E 0)), (2, .ref (ad E 39)), (3, .ref (ad E 56))]) hx hb dL_law_487 hl (by decide) rfl (fun ls hl => ?_)
  refine lv_aload_n hx hb dL_law_489 rfl (lv_at hl 5 rfl) ?_
  refine g_cvi (av := []) (rest := []) (k := 39) C I (fun _ h => h) (c_X5_thrown l E o2 σ2 (f_thrown σ2)) (cwV 0 C.1.2.2.2.2 gL_law_X5_thrown rfl rfl rfl (by decide +kernel) ⟨Nat.le_of_ble_eq_true rfl, Nat.le_of_ble_eq_true rfl⟩) (by decide) (gk_39 E o2 _) rfl rfl rfl hl.1 rfl (Nat.le_of_ble_eq_true rfl) ⟨by show (cells + 3) ≤ 601024; omega, by show (slots + 18) ≤ 7293034; omega⟩ dL_law_490 (fun H locs I => ?_)
  refine lv_iload hx hb dL_law_493 (lv_at hl 1 rfl) ?_
  refine lv_icmp_eq (tgt := 500) hx hb dL_law_495 (by decide) (fun c_495 => ?_) (fun c_495 => ?_)
  · refine lv_iload hx hb dL_law_500 (lv_at hl 1 rfl) ?_
    refine lv_if_ne (tgt := 517) hx hb dL_law_502 (by decide) (fun c_502 => ?_) (fun c_502 => ?_)
    · refine lv_goto (tgt := 1048) hx hb dL_law_517 (by decide) ?_
      refine lv_iinc (v := nI (i + 7)) (lv' := [(4, .int (nI (i + 7))), (6, .int rm), (5, .int k), (0, .ref b), (1, .ref (ad E 0)), (2, .ref (ad E 39)), (3, .ref (ad E 56))]) hx hb dL_law_1048 hl (k := 2) rfl (nI_add i 7) (by decide) rfl (fun ls hl => ?_)
      refine lv_goto (tgt := 23) hx hb dL_law_1051 (by decide) ?_
      exact ih o2 σ2 H locs ls _ _ (by omega) (by omega) I2 I (lv_sub hl [0, 3, 4, 5, 6] rfl)
    · have hkz : k = 0 := Decidable.byContradiction (fun q => absurd q (by simpa using c_502))
      refine lv_aload_n hx hb dL_law_505 rfl (lv_at hl 6 rfl) ?_
      refine lv_iconst (v := (0 : Int32)) hx hb dL_law_506 (by decide) ?_
      refine g_lald C I dL_law_507 ?_
      refine lv_iload hx hb dL_law_508 (lv_at hl 0 rfl) ?_
      refine lv_i2l (v := rm.toInt64) hx hb dL_law_510 rfl ?_
      refine W.lcmp hx hb dL_law_511 ?_
      refine lv_if_eq (tgt := 517) hx hb dL_law_512 (by decide) (fun c_512 => ?_) (fun c_512 => ?_)
      · refine lv_goto (tgt := 1048) hx hb dL_law_517 (by decide) ?_
        refine lv_iinc (v := nI (i + 7)) (lv' := [(4, .int (nI (i + 7))), (6, .int rm), (5, .int k), (0, .ref b), (1, .ref (ad E 0)), (2, .ref (ad E 39)), (3, .ref (ad E 56))]) hx hb dL_law_1048 hl (k := 2) rfl (nI_add i 7) (by decide) rfl (fun ls hl => ?_)
        refine lv_goto (tgt := 23) hx hb dL_law_1051 (by decide) ?_
        exact ih o2 σ2 H locs ls _ _ (by omega) (by omega) I2 I (lv_sub hl [0, 3, 4, 5, 6] rfl)
      · exact absurd ((lg_cmp_eq _ _).mpr (hval hkz)) c_512
  · exact absurd hth c_495
set_option maxHeartbeats 4000000 in
set_option maxRecDepth 100000 in
theorem law_call {p : Program} {l : Launch} {e : Env} {s : State} {m : MethodId} {b : Nat} {below : List Frame} {meth : Method} {c : Code} {E : En} {L : Nat} {xs : Nat → Int32} {i cells slots : Nat} (X : Lx p l c s m meth E b L xs) (hi : i + 7 ≤ L) (hc : cells + 3 ≤ 601024) (hs : slots + 18 ≤ 7293034) (ih : Nxt p l e s m b below meth c E i cells slots) (o : Int64) (σ : St) (H : Heap) (locs : List Loc) (ls : Array Slot) (hI : Inv σ) (I : Iv E (AL s) s.heap o σ H locs) (hl : lv_has ls 7 (lvL E b i)) : LW p l e s m b below meth c H locs cells slots (F0 m 520 ls []) := by
  obtain ⟨C, hst, hlocks, hr, hZ, hN, hNy, hX, hbl, hL⟩ := X
  have hx := C.1.1
  have hb := C.1.2.1
  obtain ⟨rx, σ1, rm, σ2, k, o2, e1, e2, I2, hk, hth, hval⟩ := (op_call (xs (i + 1)) (xs (i + 2))).law (by decide) hI o
  refine lv_aload_n hx hb dL_law_520 rfl (lv_at hl 2 rfl) ?_
  refine lv_aload_n hx hb dL_law_521 rfl (lv_at hl 1 rfl) ?_
  refine lv_iload hx hb dL_law_522 (lv_at hl 0 rfl) ?_
  refine lv_iconst (v := (1 : Int32)) hx hb dL_law_524 (by decide) ?_
  refine lv_iadd hx hb dL_law_525 ?_
  refine g_sld hx hb hX hbl I (i := i) (j := 1) (by omega) hL (nI_add i 1) dL_law_526 ?_
  refine lv_aload_n hx hb dL_law_527 rfl (lv_at hl 1 rfl) ?_
  refine lv_iload hx hb dL_law_528 (lv_at hl 0 rfl) ?_
  refine lv_iconst (v := (2 : Int32)) hx hb dL_law_530 (by decide) ?_
  refine lv_iadd hx hb dL_law_531 ?_
  refine g_sld hx hb hX hbl I (i := i) (j := 2) (by omega) hL (nI_add i 2) dL_law_532 ?_
  refine lv_aload_n hx hb dL_law_533 rfl (lv_at hl 4 rfl) ?_
  refine g_help (av := [.ref (ad E 0), .int (xs (i + 1)), .int (xs (i + 2)), .ref (ad E 56)]) (rest := []) C I hZ hN hNy (c_L_call l hst E o (xs (i + 1)) (xs (i + 2)) σ e1 hk) (vx_cwSW 4 C.1.2.2.2.2 gL_law_L_call rfl rfl rfl (by decide +kernel) ⟨Nat.le_of_ble_eq_true rfl, Nat.le_of_ble_eq_true rfl⟩) rfl hl.1 rfl (Nat.le_of_ble_eq_true rfl) ⟨by show cells + 2 ≤ 601024; omega, by show slots + 12 ≤ 7293034; omega⟩ dL_law_534 (fun H locs I => ?_)
  refine lv_istore (lv' := [(5, .int k), (4, .int (nI i)), (0, .ref b), (1, .ref (ad E 0)), (2, .ref (ad E 39)), (3, .ref (ad E 56))]) hx hb dL_law_537 hl (by decide) rfl (fun ls hl => ?_)
  refine lv_aload_n hx hb dL_law_539 rfl (lv_at hl 4 rfl) ?_
  refine lv_aload_n hx hb dL_law_540 rfl (lv_at hl 2 rfl) ?_
  refine lv_iload hx hb dL_law_541 (lv_at hl 1 rfl) ?_
  refine lv_iconst (v := (1 : Int32)) hx hb dL_law_543 (by decide) ?_
  refine lv_iadd hx hb dL_law_544 ?_
  refine g_sld hx hb hX hbl I (i := i) (j := 1) (by omega) hL (nI_add i 1) dL_law_545 ?_
  refine lv_aload_n hx hb dL_law_546 rfl (lv_at hl 2 rfl) ?_
  refine lv_iload hx hb dL_law_547 (lv_at hl 1 rfl) ?_
  refine lv_iconst (v := (2 : Int32)) hx hb dL_law_549 (by decide) ?_
  refine lv_iadd hx hb dL_law_550 ?_
  refine g_sld hx hb hX hbl I (i := i) (j := 2) (by omega) hL (nI_add i 2) dL_law_551 ?_
  refine g_cvi (av := [.int (xs (i + 1)), .int (xs (i + 2))]) (rest := []) (k := 39) C I (fun _ h => h) (c_X5_call l E o2 (xs (i + 1)) (xs (i + 2)) σ1 e2) (cwV 2 C.1.2.2.2.2 gL_law_X5_call rfl rfl rfl (by decide +kernel) ⟨Nat.le_of_ble_eq_true rfl, Nat.le_of_ble_eq_true rfl⟩) (by decide) (gk_39 E o2 _) rfl rfl rfl hl.1 rfl (Nat.le_of_ble_eq_true rfl) ⟨by show (cells + 2) ≤ 601024; omega, by show (slots + 12) ≤ 7293034; omega⟩ dL_law_552 (fun H locs I => ?_)
  refine lv_istore (lv' := [(6, .int rm), (5, .int k), (4, .int (nI i)), (0, .ref b), (1, .ref (ad E 0)), (2, .ref (ad E 39)), (3, .ref (ad E 56))]) hx hb dL_law_555 hl (by decide) rfl (fun ls hl => ?_)
  refine lv_aload_n hx hb dL_law_557 rfl (lv_at hl 5 rfl) ?_
  refine g_cvi (av := []) (rest := []) (k := 39) C I (fun _ h => h) (c_X5_thrown l E o2 σ2 (f_thrown σ2)) (cwV 0 C.1.2.2.2.2 gL_law_X5_thrown rfl rfl rfl (by decide +kernel) ⟨Nat.le_of_ble_eq_true rfl, Nat.le_of_ble_eq_true rfl⟩) (by decide) (gk_39 E o2 _) rfl rfl rfl hl.1 rfl (Nat.le_of_ble_eq_true rfl) ⟨by show (cells + 2) ≤ 601024; omega, by show (slots + 12) ≤ 7293034; omega⟩ dL_law_558 (fun H locs I => ?_)
  refine lv_iload hx hb dL_law_561 (lv_at hl 1 rfl) ?_
  refine lv_icmp_eq (tgt := 568) hx hb dL_law_563 (by decide) (fun c_563 => ?_) (fun c_563 => ?_)
  · refine lv_iload hx hb dL_law_568 (lv_at hl 1 rfl) ?_
    refine lv_if_ne (tgt := 585) hx hb dL_law_570 (by decide) (fun c_570 => ?_) (fun c_570 => ?_)
    · refine lv_goto (tgt := 1048) hx hb dL_law_585 (by decide) ?_
      refine lv_iinc (v := nI (i + 7)) (lv' := [(4, .int (nI (i + 7))), (6, .int rm), (5, .int k), (0, .ref b), (1, .ref (ad E 0)), (2, .ref (ad E 39)), (3, .ref (ad E 56))]) hx hb dL_law_1048 hl (k := 2) rfl (nI_add i 7) (by decide) rfl (fun ls hl => ?_)
      refine lv_goto (tgt := 23) hx hb dL_law_1051 (by decide) ?_
      exact ih o2 σ2 H locs ls _ _ (by omega) (by omega) I2 I (lv_sub hl [0, 3, 4, 5, 6] rfl)
    · have hkz : k = 0 := Decidable.byContradiction (fun q => absurd q (by simpa using c_570))
      refine lv_aload_n hx hb dL_law_573 rfl (lv_at hl 6 rfl) ?_
      refine lv_iconst (v := (0 : Int32)) hx hb dL_law_574 (by decide) ?_
      refine g_lald C I dL_law_575 ?_
      refine lv_iload hx hb dL_law_576 (lv_at hl 0 rfl) ?_
      refine lv_i2l (v := rm.toInt64) hx hb dL_law_578 rfl ?_
      refine W.lcmp hx hb dL_law_579 ?_
      refine lv_if_eq (tgt := 585) hx hb dL_law_580 (by decide) (fun c_580 => ?_) (fun c_580 => ?_)
      · refine lv_goto (tgt := 1048) hx hb dL_law_585 (by decide) ?_
        refine lv_iinc (v := nI (i + 7)) (lv' := [(4, .int (nI (i + 7))), (6, .int rm), (5, .int k), (0, .ref b), (1, .ref (ad E 0)), (2, .ref (ad E 39)), (3, .ref (ad E 56))]) hx hb dL_law_1048 hl (k := 2) rfl (nI_add i 7) (by decide) rfl (fun ls hl => ?_)
        refine lv_goto (tgt := 23) hx hb dL_law_1051 (by decide) ?_
        exact ih o2 σ2 H locs ls _ _ (by omega) (by omega) I2 I (lv_sub hl [0, 3, 4, 5, 6] rfl)
      · exact absurd ((lg_cmp_eq _ _).mpr (hval hkz)) c_580
  · exact absurd hth c_563
set_option maxHeartbeats 4000000 in
set_option maxRecDepth 100000 in
theorem law_share {p : Program} {l : Launch} {e : Env} {s : State} {m : MethodId} {b : Nat} {below : List Frame} {meth : Method} {c : Code} {E : En} {L : Nat} {xs : Nat → Int32} {i cells slots : Nat} (X : Lx p l c s m meth E b L xs) (hi : i + 7 ≤ L) (hc : cells + 3 ≤ 601024) (hs : slots + 18 ≤ 7293034) (ih : Nxt p l e s m b below meth c E i cells slots) (o : Int64) (σ : St) (H : Heap) (locs : List Loc) (ls : Array Slot) (hI : Inv σ) (I : Iv E (AL s) s.heap o σ H locs) (hl : lv_has ls 7 (lvL E b i)) : LW p l e s m b below meth c H locs cells slots (F0 m 588 ls []) := by
  obtain ⟨C, hst, hlocks, hr, hZ, hN, hNy, hX, hbl, hL⟩ := X
  have hx := C.1.1
  have hb := C.1.2.1
  obtain ⟨rx, σ1, rm, σ2, k, o2, e1, e2, I2, hk, hth, hval⟩ := (op_share (xs (i + 1))).law (by decide) hI o
  refine lv_aload_n hx hb dL_law_588 rfl (lv_at hl 2 rfl) ?_
  refine lv_aload_n hx hb dL_law_589 rfl (lv_at hl 1 rfl) ?_
  refine lv_iload hx hb dL_law_590 (lv_at hl 0 rfl) ?_
  refine lv_iconst (v := (1 : Int32)) hx hb dL_law_592 (by decide) ?_
  refine lv_iadd hx hb dL_law_593 ?_
  refine g_sld hx hb hX hbl I (i := i) (j := 1) (by omega) hL (nI_add i 1) dL_law_594 ?_
  refine lv_aload_n hx hb dL_law_595 rfl (lv_at hl 4 rfl) ?_
  refine g_help (av := [.ref (ad E 0), .int (xs (i + 1)), .ref (ad E 56)]) (rest := []) C I hZ hN hNy (c_L_share l hst E o (xs (i + 1)) σ e1 hk) (vx_cwSW 3 C.1.2.2.2.2 gL_law_L_share rfl rfl rfl (by decide +kernel) ⟨Nat.le_of_ble_eq_true rfl, Nat.le_of_ble_eq_true rfl⟩) rfl hl.1 rfl (Nat.le_of_ble_eq_true rfl) ⟨by show cells + 2 ≤ 601024; omega, by show slots + 12 ≤ 7293034; omega⟩ dL_law_596 (fun H locs I => ?_)
  refine lv_istore (lv' := [(5, .int k), (4, .int (nI i)), (0, .ref b), (1, .ref (ad E 0)), (2, .ref (ad E 39)), (3, .ref (ad E 56))]) hx hb dL_law_599 hl (by decide) rfl (fun ls hl => ?_)
  refine lv_aload_n hx hb dL_law_601 rfl (lv_at hl 4 rfl) ?_
  refine lv_aload_n hx hb dL_law_602 rfl (lv_at hl 2 rfl) ?_
  refine lv_iload hx hb dL_law_603 (lv_at hl 1 rfl) ?_
  refine lv_iconst (v := (1 : Int32)) hx hb dL_law_605 (by decide) ?_
  refine lv_iadd hx hb dL_law_606 ?_
  refine g_sld hx hb hX hbl I (i := i) (j := 1) (by omega) hL (nI_add i 1) dL_law_607 ?_
  refine g_cvi (av := [.int (xs (i + 1))]) (rest := []) (k := 39) C I (fun _ h => h) (c_X5_share l E o2 (xs (i + 1)) σ1 e2) (cwV 1 C.1.2.2.2.2 gL_law_X5_share rfl rfl rfl (by decide +kernel) ⟨Nat.le_of_ble_eq_true rfl, Nat.le_of_ble_eq_true rfl⟩) (by decide) (gk_39 E o2 _) rfl rfl rfl hl.1 rfl (Nat.le_of_ble_eq_true rfl) ⟨by show (cells + 2) ≤ 601024; omega, by show (slots + 12) ≤ 7293034; omega⟩ dL_law_608 (fun H locs I => ?_)
  refine lv_istore (lv' := [(6, .int rm), (5, .int k), (4, .int (nI i)), (0, .ref b), (1, .ref (ad E 0)), (2, .ref (ad E 39)), (3, .ref (ad E 56))]) hx hb dL_law_611 hl (by decide) rfl (fun ls hl => ?_)
  refine lv_aload_n hx hb dL_law_613 rfl (lv_at hl 5 rfl) ?_
  refine g_cvi (av := []) (rest := []) (k := 39) C I (fun _ h => h) (c_X5_thrown l E o2 σ2 (f_thrown σ2)) (cwV 0 C.1.2.2.2.2 gL_law_X5_thrown rfl rfl rfl (by decide +kernel) ⟨Nat.le_of_ble_eq_true rfl, Nat.le_of_ble_eq_true rfl⟩) (by decide) (gk_39 E o2 _) rfl rfl rfl hl.1 rfl (Nat.le_of_ble_eq_true rfl) ⟨by show (cells + 2) ≤ 601024; omega, by show (slots + 12) ≤ 7293034; omega⟩ dL_law_614 (fun H locs I => ?_)
  refine lv_iload hx hb dL_law_617 (lv_at hl 1 rfl) ?_
  refine lv_icmp_eq (tgt := 624) hx hb dL_law_619 (by decide) (fun c_619 => ?_) (fun c_619 => ?_)
  · refine lv_iload hx hb dL_law_624 (lv_at hl 1 rfl) ?_
    refine lv_if_ne (tgt := 641) hx hb dL_law_626 (by decide) (fun c_626 => ?_) (fun c_626 => ?_)
    · refine lv_goto (tgt := 1048) hx hb dL_law_641 (by decide) ?_
      refine lv_iinc (v := nI (i + 7)) (lv' := [(4, .int (nI (i + 7))), (6, .int rm), (5, .int k), (0, .ref b), (1, .ref (ad E 0)), (2, .ref (ad E 39)), (3, .ref (ad E 56))]) hx hb dL_law_1048 hl (k := 2) rfl (nI_add i 7) (by decide) rfl (fun ls hl => ?_)
      refine lv_goto (tgt := 23) hx hb dL_law_1051 (by decide) ?_
      exact ih o2 σ2 H locs ls _ _ (by omega) (by omega) I2 I (lv_sub hl [0, 3, 4, 5, 6] rfl)
    · have hkz : k = 0 := Decidable.byContradiction (fun q => absurd q (by simpa using c_626))
      refine lv_aload_n hx hb dL_law_629 rfl (lv_at hl 6 rfl) ?_
      refine lv_iconst (v := (0 : Int32)) hx hb dL_law_630 (by decide) ?_
      refine g_lald C I dL_law_631 ?_
      refine lv_iload hx hb dL_law_632 (lv_at hl 0 rfl) ?_
      refine lv_i2l (v := rm.toInt64) hx hb dL_law_634 rfl ?_
      refine W.lcmp hx hb dL_law_635 ?_
      refine lv_if_eq (tgt := 641) hx hb dL_law_636 (by decide) (fun c_636 => ?_) (fun c_636 => ?_)
      · refine lv_goto (tgt := 1048) hx hb dL_law_641 (by decide) ?_
        refine lv_iinc (v := nI (i + 7)) (lv' := [(4, .int (nI (i + 7))), (6, .int rm), (5, .int k), (0, .ref b), (1, .ref (ad E 0)), (2, .ref (ad E 39)), (3, .ref (ad E 56))]) hx hb dL_law_1048 hl (k := 2) rfl (nI_add i 7) (by decide) rfl (fun ls hl => ?_)
        refine lv_goto (tgt := 23) hx hb dL_law_1051 (by decide) ?_
        exact ih o2 σ2 H locs ls _ _ (by omega) (by omega) I2 I (lv_sub hl [0, 3, 4, 5, 6] rfl)
      · exact absurd ((lg_cmp_eq _ _).mpr (hval hkz)) c_636
  · exact absurd hth c_619
set_option maxHeartbeats 4000000 in
set_option maxRecDepth 100000 in
theorem law_mean {p : Program} {l : Launch} {e : Env} {s : State} {m : MethodId} {b : Nat} {below : List Frame} {meth : Method} {c : Code} {E : En} {L : Nat} {xs : Nat → Int32} {i cells slots : Nat} (X : Lx p l c s m meth E b L xs) (hi : i + 7 ≤ L) (hc : cells + 3 ≤ 601024) (hs : slots + 18 ≤ 7293034) (ih : Nxt p l e s m b below meth c E i cells slots) (o : Int64) (σ : St) (H : Heap) (locs : List Loc) (ls : Array Slot) (hI : Inv σ) (I : Iv E (AL s) s.heap o σ H locs) (hl : lv_has ls 7 (lvL E b i)) : LW p l e s m b below meth c H locs cells slots (F0 m 644 ls []) := by
  obtain ⟨C, hst, hlocks, hr, hZ, hN, hNy, hX, hbl, hL⟩ := X
  have hx := C.1.1
  have hb := C.1.2.1
  obtain ⟨rx, σ1, rm, σ2, k, o2, e1, e2, I2, hk, hth, hval⟩ := (op_mean).law (by decide) hI o
  refine lv_aload_n hx hb dL_law_644 rfl (lv_at hl 2 rfl) ?_
  refine lv_aload_n hx hb dL_law_645 rfl (lv_at hl 4 rfl) ?_
  refine g_help (av := [.ref (ad E 0), .ref (ad E 56)]) (rest := []) C I hZ hN hNy (c_L_mean l hst E o  σ e1 hk) (vx_cwSW 2 C.1.2.2.2.2 gL_law_L_mean rfl rfl rfl (by decide +kernel) ⟨Nat.le_of_ble_eq_true rfl, Nat.le_of_ble_eq_true rfl⟩) rfl hl.1 rfl (Nat.le_of_ble_eq_true rfl) ⟨by show cells + 1 ≤ 601024; omega, by show slots + 6 ≤ 7293034; omega⟩ dL_law_646 (fun H locs I => ?_)
  refine lv_istore (lv' := [(5, .int k), (4, .int (nI i)), (0, .ref b), (1, .ref (ad E 0)), (2, .ref (ad E 39)), (3, .ref (ad E 56))]) hx hb dL_law_649 hl (by decide) rfl (fun ls hl => ?_)
  refine lv_aload_n hx hb dL_law_651 rfl (lv_at hl 4 rfl) ?_
  refine g_cvi (av := []) (rest := []) (k := 39) C I (fun _ h => h) (c_X5_mean l E o2  σ1 e2) (cwV 0 C.1.2.2.2.2 gL_law_X5_mean rfl rfl rfl (by decide +kernel) ⟨Nat.le_of_ble_eq_true rfl, Nat.le_of_ble_eq_true rfl⟩) (by decide) (gk_39 E o2 _) rfl rfl rfl hl.1 rfl (Nat.le_of_ble_eq_true rfl) ⟨by show (cells + 1) ≤ 601024; omega, by show (slots + 6) ≤ 7293034; omega⟩ dL_law_652 (fun H locs I => ?_)
  refine lv_istore (lv' := [(6, .int rm), (5, .int k), (4, .int (nI i)), (0, .ref b), (1, .ref (ad E 0)), (2, .ref (ad E 39)), (3, .ref (ad E 56))]) hx hb dL_law_655 hl (by decide) rfl (fun ls hl => ?_)
  refine lv_aload_n hx hb dL_law_657 rfl (lv_at hl 5 rfl) ?_
  refine g_cvi (av := []) (rest := []) (k := 39) C I (fun _ h => h) (c_X5_thrown l E o2 σ2 (f_thrown σ2)) (cwV 0 C.1.2.2.2.2 gL_law_X5_thrown rfl rfl rfl (by decide +kernel) ⟨Nat.le_of_ble_eq_true rfl, Nat.le_of_ble_eq_true rfl⟩) (by decide) (gk_39 E o2 _) rfl rfl rfl hl.1 rfl (Nat.le_of_ble_eq_true rfl) ⟨by show (cells + 1) ≤ 601024; omega, by show (slots + 6) ≤ 7293034; omega⟩ dL_law_658 (fun H locs I => ?_)
  refine lv_iload hx hb dL_law_661 (lv_at hl 1 rfl) ?_
  refine lv_icmp_eq (tgt := 668) hx hb dL_law_663 (by decide) (fun c_663 => ?_) (fun c_663 => ?_)
  · refine lv_iload hx hb dL_law_668 (lv_at hl 1 rfl) ?_
    refine lv_if_ne (tgt := 685) hx hb dL_law_670 (by decide) (fun c_670 => ?_) (fun c_670 => ?_)
    · refine lv_goto (tgt := 1048) hx hb dL_law_685 (by decide) ?_
      refine lv_iinc (v := nI (i + 7)) (lv' := [(4, .int (nI (i + 7))), (6, .int rm), (5, .int k), (0, .ref b), (1, .ref (ad E 0)), (2, .ref (ad E 39)), (3, .ref (ad E 56))]) hx hb dL_law_1048 hl (k := 2) rfl (nI_add i 7) (by decide) rfl (fun ls hl => ?_)
      refine lv_goto (tgt := 23) hx hb dL_law_1051 (by decide) ?_
      exact ih o2 σ2 H locs ls _ _ (by omega) (by omega) I2 I (lv_sub hl [0, 3, 4, 5, 6] rfl)
    · have hkz : k = 0 := Decidable.byContradiction (fun q => absurd q (by simpa using c_670))
      refine lv_aload_n hx hb dL_law_673 rfl (lv_at hl 6 rfl) ?_
      refine lv_iconst (v := (0 : Int32)) hx hb dL_law_674 (by decide) ?_
      refine g_lald C I dL_law_675 ?_
      refine lv_iload hx hb dL_law_676 (lv_at hl 0 rfl) ?_
      refine lv_i2l (v := rm.toInt64) hx hb dL_law_678 rfl ?_
      refine W.lcmp hx hb dL_law_679 ?_
      refine lv_if_eq (tgt := 685) hx hb dL_law_680 (by decide) (fun c_680 => ?_) (fun c_680 => ?_)
      · refine lv_goto (tgt := 1048) hx hb dL_law_685 (by decide) ?_
        refine lv_iinc (v := nI (i + 7)) (lv' := [(4, .int (nI (i + 7))), (6, .int rm), (5, .int k), (0, .ref b), (1, .ref (ad E 0)), (2, .ref (ad E 39)), (3, .ref (ad E 56))]) hx hb dL_law_1048 hl (k := 2) rfl (nI_add i 7) (by decide) rfl (fun ls hl => ?_)
        refine lv_goto (tgt := 23) hx hb dL_law_1051 (by decide) ?_
        exact ih o2 σ2 H locs ls _ _ (by omega) (by omega) I2 I (lv_sub hl [0, 3, 4, 5, 6] rfl)
      · exact absurd ((lg_cmp_eq _ _).mpr (hval hkz)) c_680
  · exact absurd hth c_663
set_option maxHeartbeats 4000000 in
set_option maxRecDepth 100000 in
theorem law_missed {p : Program} {l : Launch} {e : Env} {s : State} {m : MethodId} {b : Nat} {below : List Frame} {meth : Method} {c : Code} {E : En} {L : Nat} {xs : Nat → Int32} {i cells slots : Nat} (X : Lx p l c s m meth E b L xs) (hi : i + 7 ≤ L) (hc : cells + 3 ≤ 601024) (hs : slots + 18 ≤ 7293034) (ih : Nxt p l e s m b below meth c E i cells slots) (o : Int64) (σ : St) (H : Heap) (locs : List Loc) (ls : Array Slot) (hI : Inv σ) (I : Iv E (AL s) s.heap o σ H locs) (hl : lv_has ls 7 (lvL E b i)) : LW p l e s m b below meth c H locs cells slots (F0 m 688 ls []) := by
  obtain ⟨C, hst, hlocks, hr, hZ, hN, hNy, hX, hbl, hL⟩ := X
  have hx := C.1.1
  have hb := C.1.2.1
  obtain ⟨r, σ1, σ2, e1, e2, I2⟩ := op_missed.seq hI
  refine lv_aload_n hx hb dL_law_688 rfl (lv_at hl 2 rfl) ?_
  refine g_cvi (av := []) (rest := []) (k := 0) C I (fun _ h => h) (c_X4_missed l E o σ e1) (cwV 0 C.1.2.2.2.2 gL_law_X4_missed rfl rfl rfl (by decide +kernel) ⟨Nat.le_of_ble_eq_true rfl, Nat.le_of_ble_eq_true rfl⟩) (by decide) (gk_0 E o _) rfl rfl rfl hl.1 rfl (Nat.le_of_ble_eq_true rfl) ⟨by show cells ≤ 601024; omega, by show slots ≤ 7293034; omega⟩ dL_law_689 (fun H locs I => ?_)
  refine lv_aload_n hx hb dL_law_692 rfl (lv_at hl 3 rfl) ?_
  refine g_cvi (av := []) (rest := [.int r]) (k := 39) C I (fun _ h => h) (c_X5_missed l E o σ1 e2) (cwV 0 C.1.2.2.2.2 gL_law_X5_missed rfl rfl rfl (by decide +kernel) ⟨Nat.le_of_ble_eq_true rfl, Nat.le_of_ble_eq_true rfl⟩) (by decide) (gk_39 E o _) rfl rfl rfl hl.1 rfl (Nat.le_of_ble_eq_true rfl) ⟨by show cells ≤ 601024; omega, by show slots ≤ 7293034; omega⟩ dL_law_693 (fun H locs I => ?_)
  refine lv_icmp_eq (tgt := 1048) hx hb dL_law_696 (by decide) (fun c_696 => ?_) (fun c_696 => ?_)
  · refine lv_iinc (v := nI (i + 7)) (lv' := [(4, .int (nI (i + 7))), (0, .ref b), (1, .ref (ad E 0)), (2, .ref (ad E 39)), (3, .ref (ad E 56))]) hx hb dL_law_1048 hl (k := 0) rfl (nI_add i 7) (by decide) rfl (fun ls hl => ?_)
    refine lv_goto (tgt := 23) hx hb dL_law_1051 (by decide) ?_
    exact ih o σ2 H locs ls _ _ (by omega) (by omega) I2 I (lv_sub hl [0, 1, 2, 3, 4] rfl)
  · exact absurd rfl c_696
set_option maxHeartbeats 4000000 in
set_option maxRecDepth 100000 in
theorem law_work {p : Program} {l : Launch} {e : Env} {s : State} {m : MethodId} {b : Nat} {below : List Frame} {meth : Method} {c : Code} {E : En} {L : Nat} {xs : Nat → Int32} {i cells slots : Nat} (X : Lx p l c s m meth E b L xs) (hi : i + 7 ≤ L) (hc : cells + 3 ≤ 601024) (hs : slots + 18 ≤ 7293034) (ih : Nxt p l e s m b below meth c E i cells slots) (o : Int64) (σ : St) (H : Heap) (locs : List Loc) (ls : Array Slot) (hI : Inv σ) (I : Iv E (AL s) s.heap o σ H locs) (hl : lv_has ls 7 (lvL E b i)) : LW p l e s m b below meth c H locs cells slots (F0 m 701 ls []) := by
  obtain ⟨C, hst, hlocks, hr, hZ, hN, hNy, hX, hbl, hL⟩ := X
  have hx := C.1.1
  have hb := C.1.2.1
  obtain ⟨rx, σ1, rm, σ2, k, o2, e1, e2, I2, hk, hth, hval⟩ := (op_work (xs (i + 1))).law (by decide) hI o
  refine lv_aload_n hx hb dL_law_701 rfl (lv_at hl 2 rfl) ?_
  refine lv_aload_n hx hb dL_law_702 rfl (lv_at hl 1 rfl) ?_
  refine lv_iload hx hb dL_law_703 (lv_at hl 0 rfl) ?_
  refine lv_iconst (v := (1 : Int32)) hx hb dL_law_705 (by decide) ?_
  refine lv_iadd hx hb dL_law_706 ?_
  refine g_sld hx hb hX hbl I (i := i) (j := 1) (by omega) hL (nI_add i 1) dL_law_707 ?_
  refine lv_aload_n hx hb dL_law_708 rfl (lv_at hl 4 rfl) ?_
  refine g_help (av := [.ref (ad E 0), .int (xs (i + 1)), .ref (ad E 56)]) (rest := []) C I hZ hN hNy (c_L_work l hst E o (xs (i + 1)) σ e1 hk) (vx_cwSW 3 C.1.2.2.2.2 gL_law_L_work rfl rfl rfl (by decide +kernel) ⟨Nat.le_of_ble_eq_true rfl, Nat.le_of_ble_eq_true rfl⟩) rfl hl.1 rfl (Nat.le_of_ble_eq_true rfl) ⟨by show cells + 1 ≤ 601024; omega, by show slots + 6 ≤ 7293034; omega⟩ dL_law_709 (fun H locs I => ?_)
  refine lv_istore (lv' := [(5, .int k), (4, .int (nI i)), (0, .ref b), (1, .ref (ad E 0)), (2, .ref (ad E 39)), (3, .ref (ad E 56))]) hx hb dL_law_712 hl (by decide) rfl (fun ls hl => ?_)
  refine lv_aload_n hx hb dL_law_714 rfl (lv_at hl 4 rfl) ?_
  refine lv_aload_n hx hb dL_law_715 rfl (lv_at hl 2 rfl) ?_
  refine lv_iload hx hb dL_law_716 (lv_at hl 1 rfl) ?_
  refine lv_iconst (v := (1 : Int32)) hx hb dL_law_718 (by decide) ?_
  refine lv_iadd hx hb dL_law_719 ?_
  refine g_sld hx hb hX hbl I (i := i) (j := 1) (by omega) hL (nI_add i 1) dL_law_720 ?_
  refine g_cvi (av := [.int (xs (i + 1))]) (rest := []) (k := 39) C I (fun _ h => h) (c_X5_work l E o2 (xs (i + 1)) σ1 e2) (cwV 1 C.1.2.2.2.2 gL_law_X5_work rfl rfl rfl (by decide +kernel) ⟨Nat.le_of_ble_eq_true rfl, Nat.le_of_ble_eq_true rfl⟩) (by decide) (gk_39 E o2 _) rfl rfl rfl hl.1 rfl (Nat.le_of_ble_eq_true rfl) ⟨by show (cells + 1) ≤ 601024; omega, by show (slots + 6) ≤ 7293034; omega⟩ dL_law_721 (fun H locs I => ?_)
  refine lv_istore (lv' := [(6, .int rm), (5, .int k), (4, .int (nI i)), (0, .ref b), (1, .ref (ad E 0)), (2, .ref (ad E 39)), (3, .ref (ad E 56))]) hx hb dL_law_724 hl (by decide) rfl (fun ls hl => ?_)
  refine lv_aload_n hx hb dL_law_726 rfl (lv_at hl 5 rfl) ?_
  refine g_cvi (av := []) (rest := []) (k := 39) C I (fun _ h => h) (c_X5_thrown l E o2 σ2 (f_thrown σ2)) (cwV 0 C.1.2.2.2.2 gL_law_X5_thrown rfl rfl rfl (by decide +kernel) ⟨Nat.le_of_ble_eq_true rfl, Nat.le_of_ble_eq_true rfl⟩) (by decide) (gk_39 E o2 _) rfl rfl rfl hl.1 rfl (Nat.le_of_ble_eq_true rfl) ⟨by show (cells + 1) ≤ 601024; omega, by show (slots + 6) ≤ 7293034; omega⟩ dL_law_727 (fun H locs I => ?_)
  refine lv_iload hx hb dL_law_730 (lv_at hl 1 rfl) ?_
  refine lv_icmp_eq (tgt := 737) hx hb dL_law_732 (by decide) (fun c_732 => ?_) (fun c_732 => ?_)
  · refine lv_iload hx hb dL_law_737 (lv_at hl 1 rfl) ?_
    refine lv_if_ne (tgt := 754) hx hb dL_law_739 (by decide) (fun c_739 => ?_) (fun c_739 => ?_)
    · refine lv_goto (tgt := 1048) hx hb dL_law_754 (by decide) ?_
      refine lv_iinc (v := nI (i + 7)) (lv' := [(4, .int (nI (i + 7))), (6, .int rm), (5, .int k), (0, .ref b), (1, .ref (ad E 0)), (2, .ref (ad E 39)), (3, .ref (ad E 56))]) hx hb dL_law_1048 hl (k := 2) rfl (nI_add i 7) (by decide) rfl (fun ls hl => ?_)
      refine lv_goto (tgt := 23) hx hb dL_law_1051 (by decide) ?_
      exact ih o2 σ2 H locs ls _ _ (by omega) (by omega) I2 I (lv_sub hl [0, 3, 4, 5, 6] rfl)
    · have hkz : k = 0 := Decidable.byContradiction (fun q => absurd q (by simpa using c_739))
      refine lv_aload_n hx hb dL_law_742 rfl (lv_at hl 6 rfl) ?_
      refine lv_iconst (v := (0 : Int32)) hx hb dL_law_743 (by decide) ?_
      refine g_lald C I dL_law_744 ?_
      refine lv_iload hx hb dL_law_745 (lv_at hl 0 rfl) ?_
      refine lv_i2l (v := rm.toInt64) hx hb dL_law_747 rfl ?_
      refine W.lcmp hx hb dL_law_748 ?_
      refine lv_if_eq (tgt := 754) hx hb dL_law_749 (by decide) (fun c_749 => ?_) (fun c_749 => ?_)
      · refine lv_goto (tgt := 1048) hx hb dL_law_754 (by decide) ?_
        refine lv_iinc (v := nI (i + 7)) (lv' := [(4, .int (nI (i + 7))), (6, .int rm), (5, .int k), (0, .ref b), (1, .ref (ad E 0)), (2, .ref (ad E 39)), (3, .ref (ad E 56))]) hx hb dL_law_1048 hl (k := 2) rfl (nI_add i 7) (by decide) rfl (fun ls hl => ?_)
        refine lv_goto (tgt := 23) hx hb dL_law_1051 (by decide) ?_
        exact ih o2 σ2 H locs ls _ _ (by omega) (by omega) I2 I (lv_sub hl [0, 3, 4, 5, 6] rfl)
      · exact absurd ((lg_cmp_eq _ _).mpr (hval hkz)) c_749
  · exact absurd hth c_732
set_option maxHeartbeats 4000000 in
set_option maxRecDepth 100000 in
theorem law_worst {p : Program} {l : Launch} {e : Env} {s : State} {m : MethodId} {b : Nat} {below : List Frame} {meth : Method} {c : Code} {E : En} {L : Nat} {xs : Nat → Int32} {i cells slots : Nat} (X : Lx p l c s m meth E b L xs) (hi : i + 7 ≤ L) (hc : cells + 3 ≤ 601024) (hs : slots + 18 ≤ 7293034) (ih : Nxt p l e s m b below meth c E i cells slots) (o : Int64) (σ : St) (H : Heap) (locs : List Loc) (ls : Array Slot) (hI : Inv σ) (I : Iv E (AL s) s.heap o σ H locs) (hl : lv_has ls 7 (lvL E b i)) : LW p l e s m b below meth c H locs cells slots (F0 m 757 ls []) := by
  obtain ⟨C, hst, hlocks, hr, hZ, hN, hNy, hX, hbl, hL⟩ := X
  have hx := C.1.1
  have hb := C.1.2.1
  obtain ⟨r, σ1, σ2, e1, e2, I2⟩ := op_worst.seq hI
  refine lv_aload_n hx hb dL_law_757 rfl (lv_at hl 2 rfl) ?_
  refine g_cvi (av := []) (rest := []) (k := 0) C I (fun _ h => h) (c_X4_worst l E o σ e1) (cwV 0 C.1.2.2.2.2 gL_law_X4_worst rfl rfl rfl (by decide +kernel) ⟨Nat.le_of_ble_eq_true rfl, Nat.le_of_ble_eq_true rfl⟩) (by decide) (gk_0 E o _) rfl rfl rfl hl.1 rfl (Nat.le_of_ble_eq_true rfl) ⟨by show cells ≤ 601024; omega, by show slots ≤ 7293034; omega⟩ dL_law_758 (fun H locs I => ?_)
  refine lv_aload_n hx hb dL_law_761 rfl (lv_at hl 3 rfl) ?_
  refine g_cvi (av := []) (rest := [.int r]) (k := 39) C I (fun _ h => h) (c_X5_worst l E o σ1 e2) (cwV 0 C.1.2.2.2.2 gL_law_X5_worst rfl rfl rfl (by decide +kernel) ⟨Nat.le_of_ble_eq_true rfl, Nat.le_of_ble_eq_true rfl⟩) (by decide) (gk_39 E o _) rfl rfl rfl hl.1 rfl (Nat.le_of_ble_eq_true rfl) ⟨by show cells ≤ 601024; omega, by show slots ≤ 7293034; omega⟩ dL_law_762 (fun H locs I => ?_)
  refine lv_icmp_eq (tgt := 1048) hx hb dL_law_765 (by decide) (fun c_765 => ?_) (fun c_765 => ?_)
  · refine lv_iinc (v := nI (i + 7)) (lv' := [(4, .int (nI (i + 7))), (0, .ref b), (1, .ref (ad E 0)), (2, .ref (ad E 39)), (3, .ref (ad E 56))]) hx hb dL_law_1048 hl (k := 0) rfl (nI_add i 7) (by decide) rfl (fun ls hl => ?_)
    refine lv_goto (tgt := 23) hx hb dL_law_1051 (by decide) ?_
    exact ih o σ2 H locs ls _ _ (by omega) (by omega) I2 I (lv_sub hl [0, 1, 2, 3, 4] rfl)
  · exact absurd rfl c_765
set_option maxHeartbeats 4000000 in
set_option maxRecDepth 100000 in
theorem law_arrived {p : Program} {l : Launch} {e : Env} {s : State} {m : MethodId} {b : Nat} {below : List Frame} {meth : Method} {c : Code} {E : En} {L : Nat} {xs : Nat → Int32} {i cells slots : Nat} (X : Lx p l c s m meth E b L xs) (hi : i + 7 ≤ L) (hc : cells + 3 ≤ 601024) (hs : slots + 18 ≤ 7293034) (ih : Nxt p l e s m b below meth c E i cells slots) (o : Int64) (σ : St) (H : Heap) (locs : List Loc) (ls : Array Slot) (hI : Inv σ) (I : Iv E (AL s) s.heap o σ H locs) (hl : lv_has ls 7 (lvL E b i)) : LW p l e s m b below meth c H locs cells slots (F0 m 770 ls []) := by
  obtain ⟨C, hst, hlocks, hr, hZ, hN, hNy, hX, hbl, hL⟩ := X
  have hx := C.1.1
  have hb := C.1.2.1
  obtain ⟨rx, σ1, rm, σ2, k, o2, e1, e2, I2, hk, hth, hval⟩ := (op_arrived (xs (i + 1))).law (by decide) hI o
  refine lv_aload_n hx hb dL_law_770 rfl (lv_at hl 2 rfl) ?_
  refine lv_aload_n hx hb dL_law_771 rfl (lv_at hl 1 rfl) ?_
  refine lv_iload hx hb dL_law_772 (lv_at hl 0 rfl) ?_
  refine lv_iconst (v := (1 : Int32)) hx hb dL_law_774 (by decide) ?_
  refine lv_iadd hx hb dL_law_775 ?_
  refine g_sld hx hb hX hbl I (i := i) (j := 1) (by omega) hL (nI_add i 1) dL_law_776 ?_
  refine lv_aload_n hx hb dL_law_777 rfl (lv_at hl 4 rfl) ?_
  refine g_help (av := [.ref (ad E 0), .int (xs (i + 1)), .ref (ad E 56)]) (rest := []) C I hZ hN hNy (c_L_arrived l hst E o (xs (i + 1)) σ e1 hk) (vx_cwSW 3 C.1.2.2.2.2 gL_law_L_arrived rfl rfl rfl (by decide +kernel) ⟨Nat.le_of_ble_eq_true rfl, Nat.le_of_ble_eq_true rfl⟩) rfl hl.1 rfl (Nat.le_of_ble_eq_true rfl) ⟨by show cells + 1 ≤ 601024; omega, by show slots + 6 ≤ 7293034; omega⟩ dL_law_778 (fun H locs I => ?_)
  refine lv_istore (lv' := [(5, .int k), (4, .int (nI i)), (0, .ref b), (1, .ref (ad E 0)), (2, .ref (ad E 39)), (3, .ref (ad E 56))]) hx hb dL_law_781 hl (by decide) rfl (fun ls hl => ?_)
  refine lv_aload_n hx hb dL_law_783 rfl (lv_at hl 4 rfl) ?_
  refine lv_aload_n hx hb dL_law_784 rfl (lv_at hl 2 rfl) ?_
  refine lv_iload hx hb dL_law_785 (lv_at hl 1 rfl) ?_
  refine lv_iconst (v := (1 : Int32)) hx hb dL_law_787 (by decide) ?_
  refine lv_iadd hx hb dL_law_788 ?_
  refine g_sld hx hb hX hbl I (i := i) (j := 1) (by omega) hL (nI_add i 1) dL_law_789 ?_
  refine g_cvi (av := [.int (xs (i + 1))]) (rest := []) (k := 39) C I (fun _ h => h) (c_X5_arrived l E o2 (xs (i + 1)) σ1 e2) (cwV 1 C.1.2.2.2.2 gL_law_X5_arrived rfl rfl rfl (by decide +kernel) ⟨Nat.le_of_ble_eq_true rfl, Nat.le_of_ble_eq_true rfl⟩) (by decide) (gk_39 E o2 _) rfl rfl rfl hl.1 rfl (Nat.le_of_ble_eq_true rfl) ⟨by show (cells + 1) ≤ 601024; omega, by show (slots + 6) ≤ 7293034; omega⟩ dL_law_790 (fun H locs I => ?_)
  refine lv_istore (lv' := [(6, .int rm), (5, .int k), (4, .int (nI i)), (0, .ref b), (1, .ref (ad E 0)), (2, .ref (ad E 39)), (3, .ref (ad E 56))]) hx hb dL_law_793 hl (by decide) rfl (fun ls hl => ?_)
  refine lv_aload_n hx hb dL_law_795 rfl (lv_at hl 5 rfl) ?_
  refine g_cvi (av := []) (rest := []) (k := 39) C I (fun _ h => h) (c_X5_thrown l E o2 σ2 (f_thrown σ2)) (cwV 0 C.1.2.2.2.2 gL_law_X5_thrown rfl rfl rfl (by decide +kernel) ⟨Nat.le_of_ble_eq_true rfl, Nat.le_of_ble_eq_true rfl⟩) (by decide) (gk_39 E o2 _) rfl rfl rfl hl.1 rfl (Nat.le_of_ble_eq_true rfl) ⟨by show (cells + 1) ≤ 601024; omega, by show (slots + 6) ≤ 7293034; omega⟩ dL_law_796 (fun H locs I => ?_)
  refine lv_iload hx hb dL_law_799 (lv_at hl 1 rfl) ?_
  refine lv_icmp_eq (tgt := 806) hx hb dL_law_801 (by decide) (fun c_801 => ?_) (fun c_801 => ?_)
  · refine lv_iload hx hb dL_law_806 (lv_at hl 1 rfl) ?_
    refine lv_if_ne (tgt := 823) hx hb dL_law_808 (by decide) (fun c_808 => ?_) (fun c_808 => ?_)
    · refine lv_goto (tgt := 1048) hx hb dL_law_823 (by decide) ?_
      refine lv_iinc (v := nI (i + 7)) (lv' := [(4, .int (nI (i + 7))), (6, .int rm), (5, .int k), (0, .ref b), (1, .ref (ad E 0)), (2, .ref (ad E 39)), (3, .ref (ad E 56))]) hx hb dL_law_1048 hl (k := 2) rfl (nI_add i 7) (by decide) rfl (fun ls hl => ?_)
      refine lv_goto (tgt := 23) hx hb dL_law_1051 (by decide) ?_
      exact ih o2 σ2 H locs ls _ _ (by omega) (by omega) I2 I (lv_sub hl [0, 3, 4, 5, 6] rfl)
    · have hkz : k = 0 := Decidable.byContradiction (fun q => absurd q (by simpa using c_808))
      refine lv_aload_n hx hb dL_law_811 rfl (lv_at hl 6 rfl) ?_
      refine lv_iconst (v := (0 : Int32)) hx hb dL_law_812 (by decide) ?_
      refine g_lald C I dL_law_813 ?_
      refine lv_iload hx hb dL_law_814 (lv_at hl 0 rfl) ?_
      refine lv_i2l (v := rm.toInt64) hx hb dL_law_816 rfl ?_
      refine W.lcmp hx hb dL_law_817 ?_
      refine lv_if_eq (tgt := 823) hx hb dL_law_818 (by decide) (fun c_818 => ?_) (fun c_818 => ?_)
      · refine lv_goto (tgt := 1048) hx hb dL_law_823 (by decide) ?_
        refine lv_iinc (v := nI (i + 7)) (lv' := [(4, .int (nI (i + 7))), (6, .int rm), (5, .int k), (0, .ref b), (1, .ref (ad E 0)), (2, .ref (ad E 39)), (3, .ref (ad E 56))]) hx hb dL_law_1048 hl (k := 2) rfl (nI_add i 7) (by decide) rfl (fun ls hl => ?_)
        refine lv_goto (tgt := 23) hx hb dL_law_1051 (by decide) ?_
        exact ih o2 σ2 H locs ls _ _ (by omega) (by omega) I2 I (lv_sub hl [0, 3, 4, 5, 6] rfl)
      · exact absurd ((lg_cmp_eq _ _).mpr (hval hkz)) c_818
  · exact absurd hth c_801
set_option maxHeartbeats 4000000 in
set_option maxRecDepth 100000 in
theorem law_unlucky {p : Program} {l : Launch} {e : Env} {s : State} {m : MethodId} {b : Nat} {below : List Frame} {meth : Method} {c : Code} {E : En} {L : Nat} {xs : Nat → Int32} {i cells slots : Nat} (X : Lx p l c s m meth E b L xs) (hi : i + 7 ≤ L) (hc : cells + 3 ≤ 601024) (hs : slots + 18 ≤ 7293034) (ih : Nxt p l e s m b below meth c E i cells slots) (o : Int64) (σ : St) (H : Heap) (locs : List Loc) (ls : Array Slot) (hI : Inv σ) (I : Iv E (AL s) s.heap o σ H locs) (hl : lv_has ls 7 (lvL E b i)) : LW p l e s m b below meth c H locs cells slots (F0 m 826 ls []) := by
  obtain ⟨C, hst, hlocks, hr, hZ, hN, hNy, hX, hbl, hL⟩ := X
  have hx := C.1.1
  have hb := C.1.2.1
  obtain ⟨rx, σ1, rm, σ2, k, o2, e1, e2, I2, hk, hth, hval⟩ := (op_unlucky (xs (i + 1)) (xs (i + 2)) (xs (i + 3)) (xs (i + 4)) (xs (i + 5))).law (by decide) hI o
  refine lv_aload_n hx hb dL_law_826 rfl (lv_at hl 2 rfl) ?_
  refine lv_aload_n hx hb dL_law_827 rfl (lv_at hl 1 rfl) ?_
  refine lv_iload hx hb dL_law_828 (lv_at hl 0 rfl) ?_
  refine lv_iconst (v := (1 : Int32)) hx hb dL_law_830 (by decide) ?_
  refine lv_iadd hx hb dL_law_831 ?_
  refine g_sld hx hb hX hbl I (i := i) (j := 1) (by omega) hL (nI_add i 1) dL_law_832 ?_
  refine lv_aload_n hx hb dL_law_833 rfl (lv_at hl 1 rfl) ?_
  refine lv_iload hx hb dL_law_834 (lv_at hl 0 rfl) ?_
  refine lv_iconst (v := (2 : Int32)) hx hb dL_law_836 (by decide) ?_
  refine lv_iadd hx hb dL_law_837 ?_
  refine g_sld hx hb hX hbl I (i := i) (j := 2) (by omega) hL (nI_add i 2) dL_law_838 ?_
  refine lv_aload_n hx hb dL_law_839 rfl (lv_at hl 1 rfl) ?_
  refine lv_iload hx hb dL_law_840 (lv_at hl 0 rfl) ?_
  refine lv_iconst (v := (3 : Int32)) hx hb dL_law_842 (by decide) ?_
  refine lv_iadd hx hb dL_law_843 ?_
  refine g_sld hx hb hX hbl I (i := i) (j := 3) (by omega) hL (nI_add i 3) dL_law_844 ?_
  refine lv_aload_n hx hb dL_law_845 rfl (lv_at hl 1 rfl) ?_
  refine lv_iload hx hb dL_law_846 (lv_at hl 0 rfl) ?_
  refine lv_iconst (v := (4 : Int32)) hx hb dL_law_848 (by decide) ?_
  refine lv_iadd hx hb dL_law_849 ?_
  refine g_sld hx hb hX hbl I (i := i) (j := 4) (by omega) hL (nI_add i 4) dL_law_850 ?_
  refine lv_aload_n hx hb dL_law_851 rfl (lv_at hl 1 rfl) ?_
  refine lv_iload hx hb dL_law_852 (lv_at hl 0 rfl) ?_
  refine lv_iconst (v := (5 : Int32)) hx hb dL_law_854 (by decide) ?_
  refine lv_iadd hx hb dL_law_855 ?_
  refine g_sld hx hb hX hbl I (i := i) (j := 5) (by omega) hL (nI_add i 5) dL_law_856 ?_
  refine lv_aload_n hx hb dL_law_857 rfl (lv_at hl 4 rfl) ?_
  refine g_help (av := [.ref (ad E 0), .int (xs (i + 1)), .int (xs (i + 2)), .int (xs (i + 3)), .int (xs (i + 4)), .int (xs (i + 5)), .ref (ad E 56)]) (rest := []) C I hZ hN hNy (c_L_unlucky l hst E o (xs (i + 1)) (xs (i + 2)) (xs (i + 3)) (xs (i + 4)) (xs (i + 5)) σ e1 hk) (vx_cwSW 7 C.1.2.2.2.2 gL_law_L_unlucky rfl rfl rfl (by decide +kernel) ⟨Nat.le_of_ble_eq_true rfl, Nat.le_of_ble_eq_true rfl⟩) rfl hl.1 rfl (Nat.le_of_ble_eq_true rfl) ⟨by show cells + 3 ≤ 601024; omega, by show slots + 18 ≤ 7293034; omega⟩ dL_law_858 (fun H locs I => ?_)
  refine lv_istore (lv' := [(5, .int k), (4, .int (nI i)), (0, .ref b), (1, .ref (ad E 0)), (2, .ref (ad E 39)), (3, .ref (ad E 56))]) hx hb dL_law_861 hl (by decide) rfl (fun ls hl => ?_)
  refine lv_aload_n hx hb dL_law_863 rfl (lv_at hl 4 rfl) ?_
  refine lv_aload_n hx hb dL_law_864 rfl (lv_at hl 2 rfl) ?_
  refine lv_iload hx hb dL_law_865 (lv_at hl 1 rfl) ?_
  refine lv_iconst (v := (1 : Int32)) hx hb dL_law_867 (by decide) ?_
  refine lv_iadd hx hb dL_law_868 ?_
  refine g_sld hx hb hX hbl I (i := i) (j := 1) (by omega) hL (nI_add i 1) dL_law_869 ?_
  refine lv_aload_n hx hb dL_law_870 rfl (lv_at hl 2 rfl) ?_
  refine lv_iload hx hb dL_law_871 (lv_at hl 1 rfl) ?_
  refine lv_iconst (v := (2 : Int32)) hx hb dL_law_873 (by decide) ?_
  refine lv_iadd hx hb dL_law_874 ?_
  refine g_sld hx hb hX hbl I (i := i) (j := 2) (by omega) hL (nI_add i 2) dL_law_875 ?_
  refine lv_aload_n hx hb dL_law_876 rfl (lv_at hl 2 rfl) ?_
  refine lv_iload hx hb dL_law_877 (lv_at hl 1 rfl) ?_
  refine lv_iconst (v := (3 : Int32)) hx hb dL_law_879 (by decide) ?_
  refine lv_iadd hx hb dL_law_880 ?_
  refine g_sld hx hb hX hbl I (i := i) (j := 3) (by omega) hL (nI_add i 3) dL_law_881 ?_
  refine lv_aload_n hx hb dL_law_882 rfl (lv_at hl 2 rfl) ?_
  refine lv_iload hx hb dL_law_883 (lv_at hl 1 rfl) ?_
  refine lv_iconst (v := (4 : Int32)) hx hb dL_law_885 (by decide) ?_
  refine lv_iadd hx hb dL_law_886 ?_
  refine g_sld hx hb hX hbl I (i := i) (j := 4) (by omega) hL (nI_add i 4) dL_law_887 ?_
  refine lv_aload_n hx hb dL_law_888 rfl (lv_at hl 2 rfl) ?_
  refine lv_iload hx hb dL_law_889 (lv_at hl 1 rfl) ?_
  refine lv_iconst (v := (5 : Int32)) hx hb dL_law_891 (by decide) ?_
  refine lv_iadd hx hb dL_law_892 ?_
  refine g_sld hx hb hX hbl I (i := i) (j := 5) (by omega) hL (nI_add i 5) dL_law_893 ?_
  refine g_cvi (av := [.int (xs (i + 1)), .int (xs (i + 2)), .int (xs (i + 3)), .int (xs (i + 4)), .int (xs (i + 5))]) (rest := []) (k := 39) C I (fun _ h => h) (c_X5_unlucky l E o2 (xs (i + 1)) (xs (i + 2)) (xs (i + 3)) (xs (i + 4)) (xs (i + 5)) σ1 e2) (cwV 5 C.1.2.2.2.2 gL_law_X5_unlucky rfl rfl rfl (by decide +kernel) ⟨Nat.le_of_ble_eq_true rfl, Nat.le_of_ble_eq_true rfl⟩) (by decide) (gk_39 E o2 _) rfl rfl rfl hl.1 rfl (Nat.le_of_ble_eq_true rfl) ⟨by show (cells + 3) ≤ 601024; omega, by show (slots + 18) ≤ 7293034; omega⟩ dL_law_894 (fun H locs I => ?_)
  refine lv_istore (lv' := [(6, .int rm), (5, .int k), (4, .int (nI i)), (0, .ref b), (1, .ref (ad E 0)), (2, .ref (ad E 39)), (3, .ref (ad E 56))]) hx hb dL_law_897 hl (by decide) rfl (fun ls hl => ?_)
  refine lv_aload_n hx hb dL_law_899 rfl (lv_at hl 5 rfl) ?_
  refine g_cvi (av := []) (rest := []) (k := 39) C I (fun _ h => h) (c_X5_thrown l E o2 σ2 (f_thrown σ2)) (cwV 0 C.1.2.2.2.2 gL_law_X5_thrown rfl rfl rfl (by decide +kernel) ⟨Nat.le_of_ble_eq_true rfl, Nat.le_of_ble_eq_true rfl⟩) (by decide) (gk_39 E o2 _) rfl rfl rfl hl.1 rfl (Nat.le_of_ble_eq_true rfl) ⟨by show (cells + 3) ≤ 601024; omega, by show (slots + 18) ≤ 7293034; omega⟩ dL_law_900 (fun H locs I => ?_)
  refine lv_iload hx hb dL_law_903 (lv_at hl 1 rfl) ?_
  refine lv_icmp_eq (tgt := 910) hx hb dL_law_905 (by decide) (fun c_905 => ?_) (fun c_905 => ?_)
  · refine lv_iload hx hb dL_law_910 (lv_at hl 1 rfl) ?_
    refine lv_if_ne (tgt := 927) hx hb dL_law_912 (by decide) (fun c_912 => ?_) (fun c_912 => ?_)
    · refine lv_goto (tgt := 1048) hx hb dL_law_927 (by decide) ?_
      refine lv_iinc (v := nI (i + 7)) (lv' := [(4, .int (nI (i + 7))), (6, .int rm), (5, .int k), (0, .ref b), (1, .ref (ad E 0)), (2, .ref (ad E 39)), (3, .ref (ad E 56))]) hx hb dL_law_1048 hl (k := 2) rfl (nI_add i 7) (by decide) rfl (fun ls hl => ?_)
      refine lv_goto (tgt := 23) hx hb dL_law_1051 (by decide) ?_
      exact ih o2 σ2 H locs ls _ _ (by omega) (by omega) I2 I (lv_sub hl [0, 3, 4, 5, 6] rfl)
    · have hkz : k = 0 := Decidable.byContradiction (fun q => absurd q (by simpa using c_912))
      refine lv_aload_n hx hb dL_law_915 rfl (lv_at hl 6 rfl) ?_
      refine lv_iconst (v := (0 : Int32)) hx hb dL_law_916 (by decide) ?_
      refine g_lald C I dL_law_917 ?_
      refine lv_iload hx hb dL_law_918 (lv_at hl 0 rfl) ?_
      refine lv_i2l (v := rm.toInt64) hx hb dL_law_920 rfl ?_
      refine W.lcmp hx hb dL_law_921 ?_
      refine lv_if_eq (tgt := 927) hx hb dL_law_922 (by decide) (fun c_922 => ?_) (fun c_922 => ?_)
      · refine lv_goto (tgt := 1048) hx hb dL_law_927 (by decide) ?_
        refine lv_iinc (v := nI (i + 7)) (lv' := [(4, .int (nI (i + 7))), (6, .int rm), (5, .int k), (0, .ref b), (1, .ref (ad E 0)), (2, .ref (ad E 39)), (3, .ref (ad E 56))]) hx hb dL_law_1048 hl (k := 2) rfl (nI_add i 7) (by decide) rfl (fun ls hl => ?_)
        refine lv_goto (tgt := 23) hx hb dL_law_1051 (by decide) ?_
        exact ih o2 σ2 H locs ls _ _ (by omega) (by omega) I2 I (lv_sub hl [0, 3, 4, 5, 6] rfl)
      · exact absurd ((lg_cmp_eq _ _).mpr (hval hkz)) c_922
  · exact absurd hth c_905
set_option maxHeartbeats 4000000 in
set_option maxRecDepth 100000 in
theorem law_compare {p : Program} {l : Launch} {e : Env} {s : State} {m : MethodId} {b : Nat} {below : List Frame} {meth : Method} {c : Code} {E : En} {L : Nat} {xs : Nat → Int32} {i cells slots : Nat} (X : Lx p l c s m meth E b L xs) (hi : i + 7 ≤ L) (hc : cells + 3 ≤ 601024) (hs : slots + 18 ≤ 7293034) (ih : Nxt p l e s m b below meth c E i cells slots) (o : Int64) (σ : St) (H : Heap) (locs : List Loc) (ls : Array Slot) (hI : Inv σ) (I : Iv E (AL s) s.heap o σ H locs) (hl : lv_has ls 7 (lvL E b i)) : LW p l e s m b below meth c H locs cells slots (F0 m 930 ls []) := by
  obtain ⟨C, hst, hlocks, hr, hZ, hN, hNy, hX, hbl, hL⟩ := X
  have hx := C.1.1
  have hb := C.1.2.1
  obtain ⟨rx, σ1, rm, σ2, k, o2, e1, e2, I2, hk, hth, hval⟩ := (op_compare (xs (i + 1)) (xs (i + 2)) (xs (i + 3)) (xs (i + 4)) (xs (i + 5)) (xs (i + 6))).law (by decide) hI o
  refine lv_aload_n hx hb dL_law_930 rfl (lv_at hl 2 rfl) ?_
  refine lv_aload_n hx hb dL_law_931 rfl (lv_at hl 1 rfl) ?_
  refine lv_iload hx hb dL_law_932 (lv_at hl 0 rfl) ?_
  refine lv_iconst (v := (1 : Int32)) hx hb dL_law_934 (by decide) ?_
  refine lv_iadd hx hb dL_law_935 ?_
  refine g_sld hx hb hX hbl I (i := i) (j := 1) (by omega) hL (nI_add i 1) dL_law_936 ?_
  refine lv_aload_n hx hb dL_law_937 rfl (lv_at hl 1 rfl) ?_
  refine lv_iload hx hb dL_law_938 (lv_at hl 0 rfl) ?_
  refine lv_iconst (v := (2 : Int32)) hx hb dL_law_940 (by decide) ?_
  refine lv_iadd hx hb dL_law_941 ?_
  refine g_sld hx hb hX hbl I (i := i) (j := 2) (by omega) hL (nI_add i 2) dL_law_942 ?_
  refine lv_aload_n hx hb dL_law_943 rfl (lv_at hl 1 rfl) ?_
  refine lv_iload hx hb dL_law_944 (lv_at hl 0 rfl) ?_
  refine lv_iconst (v := (3 : Int32)) hx hb dL_law_946 (by decide) ?_
  refine lv_iadd hx hb dL_law_947 ?_
  refine g_sld hx hb hX hbl I (i := i) (j := 3) (by omega) hL (nI_add i 3) dL_law_948 ?_
  refine lv_aload_n hx hb dL_law_949 rfl (lv_at hl 1 rfl) ?_
  refine lv_iload hx hb dL_law_950 (lv_at hl 0 rfl) ?_
  refine lv_iconst (v := (4 : Int32)) hx hb dL_law_952 (by decide) ?_
  refine lv_iadd hx hb dL_law_953 ?_
  refine g_sld hx hb hX hbl I (i := i) (j := 4) (by omega) hL (nI_add i 4) dL_law_954 ?_
  refine lv_aload_n hx hb dL_law_955 rfl (lv_at hl 1 rfl) ?_
  refine lv_iload hx hb dL_law_956 (lv_at hl 0 rfl) ?_
  refine lv_iconst (v := (5 : Int32)) hx hb dL_law_958 (by decide) ?_
  refine lv_iadd hx hb dL_law_959 ?_
  refine g_sld hx hb hX hbl I (i := i) (j := 5) (by omega) hL (nI_add i 5) dL_law_960 ?_
  refine lv_aload_n hx hb dL_law_961 rfl (lv_at hl 1 rfl) ?_
  refine lv_iload hx hb dL_law_962 (lv_at hl 0 rfl) ?_
  refine lv_bipush (v := (6 : Int32)) hx hb dL_law_964 (by decide) ?_
  refine lv_iadd hx hb dL_law_966 ?_
  refine g_sld hx hb hX hbl I (i := i) (j := 6) (by omega) hL (nI_add i 6) dL_law_967 ?_
  refine lv_aload_n hx hb dL_law_968 rfl (lv_at hl 4 rfl) ?_
  refine g_help (av := [.ref (ad E 0), .int (xs (i + 1)), .int (xs (i + 2)), .int (xs (i + 3)), .int (xs (i + 4)), .int (xs (i + 5)), .int (xs (i + 6)), .ref (ad E 56)]) (rest := []) C I hZ hN hNy (c_L_compare l hst E o (xs (i + 1)) (xs (i + 2)) (xs (i + 3)) (xs (i + 4)) (xs (i + 5)) (xs (i + 6)) σ e1 hk) (vx_cwSW 8 C.1.2.2.2.2 gL_law_L_compare rfl rfl rfl (by decide +kernel) ⟨Nat.le_of_ble_eq_true rfl, Nat.le_of_ble_eq_true rfl⟩) rfl hl.1 rfl (Nat.le_of_ble_eq_true rfl) ⟨by show cells + 3 ≤ 601024; omega, by show slots + 18 ≤ 7293034; omega⟩ dL_law_969 (fun H locs I => ?_)
  refine lv_istore (lv' := [(5, .int k), (4, .int (nI i)), (0, .ref b), (1, .ref (ad E 0)), (2, .ref (ad E 39)), (3, .ref (ad E 56))]) hx hb dL_law_972 hl (by decide) rfl (fun ls hl => ?_)
  refine lv_aload_n hx hb dL_law_974 rfl (lv_at hl 4 rfl) ?_
  refine lv_aload_n hx hb dL_law_975 rfl (lv_at hl 2 rfl) ?_
  refine lv_iload hx hb dL_law_976 (lv_at hl 1 rfl) ?_
  refine lv_iconst (v := (1 : Int32)) hx hb dL_law_978 (by decide) ?_
  refine lv_iadd hx hb dL_law_979 ?_
  refine g_sld hx hb hX hbl I (i := i) (j := 1) (by omega) hL (nI_add i 1) dL_law_980 ?_
  refine lv_aload_n hx hb dL_law_981 rfl (lv_at hl 2 rfl) ?_
  refine lv_iload hx hb dL_law_982 (lv_at hl 1 rfl) ?_
  refine lv_iconst (v := (2 : Int32)) hx hb dL_law_984 (by decide) ?_
  refine lv_iadd hx hb dL_law_985 ?_
  refine g_sld hx hb hX hbl I (i := i) (j := 2) (by omega) hL (nI_add i 2) dL_law_986 ?_
  refine lv_aload_n hx hb dL_law_987 rfl (lv_at hl 2 rfl) ?_
  refine lv_iload hx hb dL_law_988 (lv_at hl 1 rfl) ?_
  refine lv_iconst (v := (3 : Int32)) hx hb dL_law_990 (by decide) ?_
  refine lv_iadd hx hb dL_law_991 ?_
  refine g_sld hx hb hX hbl I (i := i) (j := 3) (by omega) hL (nI_add i 3) dL_law_992 ?_
  refine lv_aload_n hx hb dL_law_993 rfl (lv_at hl 2 rfl) ?_
  refine lv_iload hx hb dL_law_994 (lv_at hl 1 rfl) ?_
  refine lv_iconst (v := (4 : Int32)) hx hb dL_law_996 (by decide) ?_
  refine lv_iadd hx hb dL_law_997 ?_
  refine g_sld hx hb hX hbl I (i := i) (j := 4) (by omega) hL (nI_add i 4) dL_law_998 ?_
  refine lv_aload_n hx hb dL_law_999 rfl (lv_at hl 2 rfl) ?_
  refine lv_iload hx hb dL_law_1000 (lv_at hl 1 rfl) ?_
  refine lv_iconst (v := (5 : Int32)) hx hb dL_law_1002 (by decide) ?_
  refine lv_iadd hx hb dL_law_1003 ?_
  refine g_sld hx hb hX hbl I (i := i) (j := 5) (by omega) hL (nI_add i 5) dL_law_1004 ?_
  refine lv_aload_n hx hb dL_law_1005 rfl (lv_at hl 2 rfl) ?_
  refine lv_iload hx hb dL_law_1006 (lv_at hl 1 rfl) ?_
  refine lv_bipush (v := (6 : Int32)) hx hb dL_law_1008 (by decide) ?_
  refine lv_iadd hx hb dL_law_1010 ?_
  refine g_sld hx hb hX hbl I (i := i) (j := 6) (by omega) hL (nI_add i 6) dL_law_1011 ?_
  refine g_cvi (av := [.int (xs (i + 1)), .int (xs (i + 2)), .int (xs (i + 3)), .int (xs (i + 4)), .int (xs (i + 5)), .int (xs (i + 6))]) (rest := []) (k := 39) C I (fun _ h => h) (c_X5_compare l E o2 (xs (i + 1)) (xs (i + 2)) (xs (i + 3)) (xs (i + 4)) (xs (i + 5)) (xs (i + 6)) σ1 e2) (cwV 6 C.1.2.2.2.2 gL_law_X5_compare rfl rfl rfl (by decide +kernel) ⟨Nat.le_of_ble_eq_true rfl, Nat.le_of_ble_eq_true rfl⟩) (by decide) (gk_39 E o2 _) rfl rfl rfl hl.1 rfl (Nat.le_of_ble_eq_true rfl) ⟨by show (cells + 3) ≤ 601024; omega, by show (slots + 18) ≤ 7293034; omega⟩ dL_law_1012 (fun H locs I => ?_)
  refine lv_istore (lv' := [(6, .int rm), (5, .int k), (4, .int (nI i)), (0, .ref b), (1, .ref (ad E 0)), (2, .ref (ad E 39)), (3, .ref (ad E 56))]) hx hb dL_law_1015 hl (by decide) rfl (fun ls hl => ?_)
  refine lv_aload_n hx hb dL_law_1017 rfl (lv_at hl 5 rfl) ?_
  refine g_cvi (av := []) (rest := []) (k := 39) C I (fun _ h => h) (c_X5_thrown l E o2 σ2 (f_thrown σ2)) (cwV 0 C.1.2.2.2.2 gL_law_X5_thrown rfl rfl rfl (by decide +kernel) ⟨Nat.le_of_ble_eq_true rfl, Nat.le_of_ble_eq_true rfl⟩) (by decide) (gk_39 E o2 _) rfl rfl rfl hl.1 rfl (Nat.le_of_ble_eq_true rfl) ⟨by show (cells + 3) ≤ 601024; omega, by show (slots + 18) ≤ 7293034; omega⟩ dL_law_1018 (fun H locs I => ?_)
  refine lv_iload hx hb dL_law_1021 (lv_at hl 1 rfl) ?_
  refine lv_icmp_eq (tgt := 1028) hx hb dL_law_1023 (by decide) (fun c_1023 => ?_) (fun c_1023 => ?_)
  · refine lv_iload hx hb dL_law_1028 (lv_at hl 1 rfl) ?_
    refine lv_if_ne (tgt := 1045) hx hb dL_law_1030 (by decide) (fun c_1030 => ?_) (fun c_1030 => ?_)
    · refine lv_goto (tgt := 1048) hx hb dL_law_1045 (by decide) ?_
      refine lv_iinc (v := nI (i + 7)) (lv' := [(4, .int (nI (i + 7))), (6, .int rm), (5, .int k), (0, .ref b), (1, .ref (ad E 0)), (2, .ref (ad E 39)), (3, .ref (ad E 56))]) hx hb dL_law_1048 hl (k := 2) rfl (nI_add i 7) (by decide) rfl (fun ls hl => ?_)
      refine lv_goto (tgt := 23) hx hb dL_law_1051 (by decide) ?_
      exact ih o2 σ2 H locs ls _ _ (by omega) (by omega) I2 I (lv_sub hl [0, 3, 4, 5, 6] rfl)
    · have hkz : k = 0 := Decidable.byContradiction (fun q => absurd q (by simpa using c_1030))
      refine lv_aload_n hx hb dL_law_1033 rfl (lv_at hl 6 rfl) ?_
      refine lv_iconst (v := (0 : Int32)) hx hb dL_law_1034 (by decide) ?_
      refine g_lald C I dL_law_1035 ?_
      refine lv_iload hx hb dL_law_1036 (lv_at hl 0 rfl) ?_
      refine lv_i2l (v := rm.toInt64) hx hb dL_law_1038 rfl ?_
      refine W.lcmp hx hb dL_law_1039 ?_
      refine lv_if_eq (tgt := 1045) hx hb dL_law_1040 (by decide) (fun c_1040 => ?_) (fun c_1040 => ?_)
      · refine lv_goto (tgt := 1048) hx hb dL_law_1045 (by decide) ?_
        refine lv_iinc (v := nI (i + 7)) (lv' := [(4, .int (nI (i + 7))), (6, .int rm), (5, .int k), (0, .ref b), (1, .ref (ad E 0)), (2, .ref (ad E 39)), (3, .ref (ad E 56))]) hx hb dL_law_1048 hl (k := 2) rfl (nI_add i 7) (by decide) rfl (fun ls hl => ?_)
        refine lv_goto (tgt := 23) hx hb dL_law_1051 (by decide) ?_
        exact ih o2 σ2 H locs ls _ _ (by omega) (by omega) I2 I (lv_sub hl [0, 3, 4, 5, 6] rfl)
      · exact absurd ((lg_cmp_eq _ _).mpr (hval hkz)) c_1040
  · exact absurd hth c_1023
