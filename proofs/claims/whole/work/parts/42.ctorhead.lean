/-! rows for the constructors -/
def ch (k c : Nat) : Prop := match k with
  | 0 => c = 1 ∨ c = 7 ∨ c = 13
  | 1 => c = 2 ∨ c = 3 ∨ c = 4 ∨ c = 5 ∨ c = 6
  | 7 => c = 8
  | 8 => 9 ≤ c ∧ c < 13
  | 13 => c = 34 ∨ c = 14 ∨ c = 15 ∨ c = 16 ∨ c = 17 ∨ c = 18 ∨ c = 19 ∨ c = 32 ∨ c = 33
  | 19 => 20 ≤ c ∧ c < 32
  | 34 => c = 35 ∨ c = 36 ∨ c = 37 ∨ c = 38
  | 39 => c = 40 ∨ c = 41 ∨ c = 42 ∨ c = 43 ∨ c = 44 ∨ c = 45 ∨ c = 46 ∨ c = 47 ∨ c = 48 ∨ c = 49 ∨ c = 50 ∨ c = 51 ∨ c = 52 ∨ c = 53 ∨ c = 54 ∨ c = 55
  | _ => False
theorem gk_congr {E E2 : En} (hT : E.2.1 = E2.2.1) : ∀ {k : Nat}, (∀ c, ch k c → ad E c = ad E2 c) → ∀ (o : Int64) (r : Nat → Int32), gk E o k r = gk E2 o k r
  | 0, h, o, r => by rw [gk_0, gk_0, h 1 (Or.inl rfl), h 7 (Or.inr (Or.inl rfl)), h 13 (Or.inr (Or.inr (rfl)))]
  | 1, h, o, r => by rw [gk_1, gk_1, h 2 (Or.inl rfl), h 3 (Or.inr (Or.inl rfl)), h 4 (Or.inr (Or.inr (Or.inl rfl))), h 5 (Or.inr (Or.inr (Or.inr (Or.inl rfl)))), h 6 (Or.inr (Or.inr (Or.inr (Or.inr (rfl)))))]
  | 2, h, o, r => by rw [gk_2, gk_2, hT]
  | 3, h, o, r => by rw [gk_3, gk_3, hT]
  | 4, h, o, r => by rw [gk_4, gk_4, hT]
  | 5, h, o, r => by rw [gk_5, gk_5, hT]
  | 6, h, o, r => by rw [gk_6, gk_6, hT]
  | 7, h, o, r => by rw [gk_7, gk_7, h 8 (rfl)]
  | 8, h, o, r => by
    rw [gk_8, gk_8, hT]
    have e : (fun j => if j < 4 then some (ad E (9 + j)) else none) = (fun j => if j < 4 then some (ad E2 (9 + j)) else none) := funext fun j => by
      by_cases hj : j < 4
      · rw [if_pos hj, if_pos hj, h (9 + j) ⟨by omega, by omega⟩]
      · rw [if_neg hj, if_neg hj]
    rw [e]
  | 9, h, o, r => by rw [gk_9, gk_9, hT]
  | 10, h, o, r => by rw [gk_10, gk_10, hT]
  | 11, h, o, r => by rw [gk_11, gk_11, hT]
  | 12, h, o, r => by rw [gk_12, gk_12, hT]
  | 13, h, o, r => by rw [gk_13, gk_13, h 34 (Or.inl rfl), h 14 (Or.inr (Or.inl rfl)), h 15 (Or.inr (Or.inr (Or.inl rfl))), h 16 (Or.inr (Or.inr (Or.inr (Or.inl rfl)))), h 17 (Or.inr (Or.inr (Or.inr (Or.inr (Or.inl rfl))))), h 18 (Or.inr (Or.inr (Or.inr (Or.inr (Or.inr (Or.inl rfl)))))), h 19 (Or.inr (Or.inr (Or.inr (Or.inr (Or.inr (Or.inr (Or.inl rfl))))))), h 32 (Or.inr (Or.inr (Or.inr (Or.inr (Or.inr (Or.inr (Or.inr (Or.inl rfl)))))))), h 33 (Or.inr (Or.inr (Or.inr (Or.inr (Or.inr (Or.inr (Or.inr (Or.inr (rfl)))))))))]
  | 14, h, o, r => by rw [gk_14, gk_14, hT]
  | 15, h, o, r => by rw [gk_15, gk_15, hT]
  | 16, h, o, r => by rw [gk_16, gk_16, hT]
  | 17, h, o, r => by rw [gk_17, gk_17, hT]
  | 18, h, o, r => by rw [gk_18, gk_18, hT]
  | 19, h, o, r => by
    rw [gk_19, gk_19, hT]
    have e : (fun j => if j < 12 then some (ad E (20 + j)) else none) = (fun j => if j < 12 then some (ad E2 (20 + j)) else none) := funext fun j => by
      by_cases hj : j < 12
      · rw [if_pos hj, if_pos hj, h (20 + j) ⟨by omega, by omega⟩]
      · rw [if_neg hj, if_neg hj]
    rw [e]
  | 20, h, o, r => by rw [gk_20, gk_20, hT]
  | 21, h, o, r => by rw [gk_21, gk_21, hT]
  | 22, h, o, r => by rw [gk_22, gk_22, hT]
  | 23, h, o, r => by rw [gk_23, gk_23, hT]
  | 24, h, o, r => by rw [gk_24, gk_24, hT]
  | 25, h, o, r => by rw [gk_25, gk_25, hT]
  | 26, h, o, r => by rw [gk_26, gk_26, hT]
  | 27, h, o, r => by rw [gk_27, gk_27, hT]
  | 28, h, o, r => by rw [gk_28, gk_28, hT]
  | 29, h, o, r => by rw [gk_29, gk_29, hT]
  | 30, h, o, r => by rw [gk_30, gk_30, hT]
  | 31, h, o, r => by rw [gk_31, gk_31, hT]
  | 32, h, o, r => by rw [gk_32, gk_32, hT]
  | 33, h, o, r => by rw [gk_33, gk_33, hT]
  | 34, h, o, r => by rw [gk_34, gk_34, h 35 (Or.inl rfl), h 36 (Or.inr (Or.inl rfl)), h 37 (Or.inr (Or.inr (Or.inl rfl))), h 38 (Or.inr (Or.inr (Or.inr (rfl))))]
  | 35, h, o, r => by rw [gk_35, gk_35, hT]
  | 36, h, o, r => by rw [gk_36, gk_36, hT]
  | 37, h, o, r => by rw [gk_37, gk_37, hT]
  | 38, h, o, r => by rw [gk_38, gk_38, hT]
  | 39, h, o, r => by rw [gk_39, gk_39, h 40 (Or.inl rfl), h 41 (Or.inr (Or.inl rfl)), h 42 (Or.inr (Or.inr (Or.inl rfl))), h 43 (Or.inr (Or.inr (Or.inr (Or.inl rfl)))), h 44 (Or.inr (Or.inr (Or.inr (Or.inr (Or.inl rfl))))), h 45 (Or.inr (Or.inr (Or.inr (Or.inr (Or.inr (Or.inl rfl)))))), h 46 (Or.inr (Or.inr (Or.inr (Or.inr (Or.inr (Or.inr (Or.inl rfl))))))), h 47 (Or.inr (Or.inr (Or.inr (Or.inr (Or.inr (Or.inr (Or.inr (Or.inl rfl)))))))), h 48 (Or.inr (Or.inr (Or.inr (Or.inr (Or.inr (Or.inr (Or.inr (Or.inr (Or.inl rfl))))))))), h 49 (Or.inr (Or.inr (Or.inr (Or.inr (Or.inr (Or.inr (Or.inr (Or.inr (Or.inr (Or.inl rfl)))))))))), h 50 (Or.inr (Or.inr (Or.inr (Or.inr (Or.inr (Or.inr (Or.inr (Or.inr (Or.inr (Or.inr (Or.inl rfl))))))))))), h 51 (Or.inr (Or.inr (Or.inr (Or.inr (Or.inr (Or.inr (Or.inr (Or.inr (Or.inr (Or.inr (Or.inr (Or.inl rfl)))))))))))), h 52 (Or.inr (Or.inr (Or.inr (Or.inr (Or.inr (Or.inr (Or.inr (Or.inr (Or.inr (Or.inr (Or.inr (Or.inr (Or.inl rfl))))))))))))), h 53 (Or.inr (Or.inr (Or.inr (Or.inr (Or.inr (Or.inr (Or.inr (Or.inr (Or.inr (Or.inr (Or.inr (Or.inr (Or.inr (Or.inl rfl)))))))))))))), h 54 (Or.inr (Or.inr (Or.inr (Or.inr (Or.inr (Or.inr (Or.inr (Or.inr (Or.inr (Or.inr (Or.inr (Or.inr (Or.inr (Or.inr (Or.inl rfl))))))))))))))), h 55 (Or.inr (Or.inr (Or.inr (Or.inr (Or.inr (Or.inr (Or.inr (Or.inr (Or.inr (Or.inr (Or.inr (Or.inr (Or.inr (Or.inr (Or.inr (rfl))))))))))))))))]
  | 40, h, o, r => by rw [gk_40, gk_40, hT]
  | 41, h, o, r => by rw [gk_41, gk_41, hT]
  | 42, h, o, r => by rw [gk_42, gk_42, hT]
  | 43, h, o, r => by rw [gk_43, gk_43, hT]
  | 44, h, o, r => by rw [gk_44, gk_44, hT]
  | 45, h, o, r => by rw [gk_45, gk_45, hT]
  | 46, h, o, r => by rw [gk_46, gk_46, hT]
  | 47, h, o, r => by rw [gk_47, gk_47, hT]
  | 48, h, o, r => by rw [gk_48, gk_48, hT]
  | 49, h, o, r => by rw [gk_49, gk_49, hT]
  | 50, h, o, r => by rw [gk_50, gk_50, hT]
  | 51, h, o, r => by rw [gk_51, gk_51, hT]
  | 52, h, o, r => by rw [gk_52, gk_52, hT]
  | 53, h, o, r => by rw [gk_53, gk_53, hT]
  | 54, h, o, r => by rw [gk_54, gk_54, hT]
  | 55, h, o, r => by rw [gk_55, gk_55, hT]
  | 56, h, o, r => by rw [gk_56, gk_56, hT]
  | n + 57, h, o, r => by show (Sum.inl (E.2.1 3, 1, .inr (.inl (fun _ => o))) : va_E) = Sum.inl (E2.2.1 3, 1, .inr (.inl (fun _ => o))); rw [hT]
def gs (ks : List Nat) (E : En) (o : Int64) (σ : St) : va_W := ks.map (fun k => (ad E k, gk E o k (σ k)))
theorem gs_congr {E E2 : En} (hT : E.2.1 = E2.2.1) (ks : List Nat) (h : ∀ k ∈ ks, ad E k = ad E2 k ∧ ∀ c, ch k c → ad E c = ad E2 c) (o : Int64) (σ : St) : gs ks E o σ = gs ks E2 o σ := by
  unfold gs
  refine List.map_congr_left (fun k hk => ?_)
  rw [(h k hk).1, gk_congr hT (h k hk).2]
def σz : St := fun _ _ => 0
theorem va_AOA.warm {t : FieldType} {s U : State} (hW : s.WarmedH U.vm) (hZ : va_AOA t s) : va_AOA t U := by
  have h : (Cond.arrayOver (.array t)).before #[] (s.setVm U.vm) = true := by rw [Cond.arrayOver_setVmC hW.alike]; exact hZ
  exact h
def Nn (U : State) : Prop := va_Nw (.methodLinkNest RX4 11 yX3_init "DaySimulate") U ∧ va_Nw (.methodLinkNest RX4 18 yX1_init "DaySimulate") U ∧ va_Nw (.methodLinkNest RX4 25 yX2_init "DaySimulate") U ∧ va_Nw (.methodLinkNest RX2 11 yX0_init "DaySimulate") U ∧ va_AOA .int U
theorem Nn.warm {s U : State} (hW : s.WarmedH U.vm) (h : Nn s) : Nn U := ⟨va_Nw.warmM hW h.1, va_Nw.warmM hW h.2.1, va_Nw.warmM hW h.2.2.1, va_Nw.warmM hW h.2.2.2.1, va_AOA.warm hW h.2.2.2.2⟩
section GC
variable {p : Program} {l : Launch} {e : Env} {R : Room} {s : State} {m : MethodId} {args : Array Value} {below : List Frame} {meth : Method} {c : Code} {H : Heap} {locs : List Loc} {cells slots : Nat} {Q : State → Prop}
variable {cc : ByteArray} {pc : Nat} {ls : Array Slot} {rest : List Value} {A : Nat → Prop} {ws : va_W} {H0 : Heap} {E : En}
theorem gT_eq {cA : ClassId} {ty : FieldType} {k : Nat} {cB : ClassId} (hK : va_K E.2.2 vwCl (gT E) s) (hk : (gT E)[k]? = some (cB, ty)) (hty : ∀ C, ty ≠ .object C) (hR : va_RA s cA ty) : cA = cB := by
  have h2 := (hK.2 k _ hk).2
  cases ty with
  | object C => exact absurd rfl (hty C)
  | _ => exact Option.some.inj (hR.symm.trans h2)
theorem c_newi (hx : p.tables.exec = Jvm.exec) (hb : c.code = cc) (harr : (Cond.arrayClass .int).before args s = true) (hK : va_K E.2.2 vwCl (gT E) s) (hP : va_P E.2.2 vwCl ws H) (hD : va_D A ws) (hS : va_S A H0 H locs) (hA : ∀ q, H0.size ≤ q → A q)
    {n : Int32} (N' : Nat) (hn : ¬ n < 0) (hN : n.toNatClampNeg = N') (hbytes : N' * 4 ≤ 536870912) (hcells : cells + 1 ≤ R.cells) (hslots : slots + N' ≤ R.slots) (hdg : decode cc pc = .ok (.newarray .int, 2))
    (kk : ∀ (q : Nat) (H1 : Heap), va_P E.2.2 vwCl (ws ++ [(q, .inl (E.2.1 0, N', .inl (fun _ => 0)))]) H1 → va_D A (ws ++ [(q, .inl (E.2.1 0, N', .inl (fun _ => 0)))]) → va_S A H0 H1 locs →
      W p l e R s m args below meth c H1 locs (cells + 1) (slots + N') Q (F0 m (pc + 2) ls (.ref q :: rest))) : W p l e R s m args below meth c H locs cells slots Q (F0 m pc ls (.int n :: rest)) :=
  va_newa (atype := .int) (ty := .int) (a0 := (N', .inl (fun _ => 0))) hx hb harr rfl hK hP hD hS hA (fun cA => rfl) hn hN hbytes hcells hslots hdg (fun q cA H1 hK1 hP1 hD1 hS1 => by
    have e1 : cA = E.2.1 0 := gT_eq hK (k := 0) rfl (fun C h => by cases h) (hK1.2 4 (cA, .int) rfl).2
    subst e1
    exact kk q H1 hP1 hD1 hS1)
theorem c_newz (hx : p.tables.exec = Jvm.exec) (hb : c.code = cc) (harr : (Cond.arrayClass .boolean).before args s = true) (hK : va_K E.2.2 vwCl (gT E) s) (hP : va_P E.2.2 vwCl ws H) (hD : va_D A ws) (hS : va_S A H0 H locs) (hA : ∀ q, H0.size ≤ q → A q)
    {n : Int32} (N' : Nat) (hn : ¬ n < 0) (hN : n.toNatClampNeg = N') (hbytes : N' * 1 ≤ 536870912) (hcells : cells + 1 ≤ R.cells) (hslots : slots + N' ≤ R.slots) (hdg : decode cc pc = .ok (.newarray .boolean, 2))
    (kk : ∀ (q : Nat) (H1 : Heap), va_P E.2.2 vwCl (ws ++ [(q, .inl (E.2.1 1, N', .inl (fun _ => 0)))]) H1 → va_D A (ws ++ [(q, .inl (E.2.1 1, N', .inl (fun _ => 0)))]) → va_S A H0 H1 locs →
      W p l e R s m args below meth c H1 locs (cells + 1) (slots + N') Q (F0 m (pc + 2) ls (.ref q :: rest))) : W p l e R s m args below meth c H locs cells slots Q (F0 m pc ls (.int n :: rest)) :=
  va_newa (atype := .boolean) (ty := .boolean) (a0 := (N', .inl (fun _ => 0))) hx hb harr rfl hK hP hD hS hA (fun cA => rfl) hn hN hbytes hcells hslots hdg (fun q cA H1 hK1 hP1 hD1 hS1 => by
    have e1 : cA = E.2.1 1 := gT_eq hK (k := 1) rfl (fun C h => by cases h) (hK1.2 4 (cA, .boolean) rfl).2
    subst e1
    exact kk q H1 hP1 hD1 hS1)
theorem c_newl (hx : p.tables.exec = Jvm.exec) (hb : c.code = cc) (harr : (Cond.arrayClass .long).before args s = true) (hK : va_K E.2.2 vwCl (gT E) s) (hP : va_P E.2.2 vwCl ws H) (hD : va_D A ws) (hS : va_S A H0 H locs) (hA : ∀ q, H0.size ≤ q → A q)
    {n : Int32} (N' : Nat) (hn : ¬ n < 0) (hN : n.toNatClampNeg = N') (hbytes : N' * 8 ≤ 536870912) (hcells : cells + 1 ≤ R.cells) (hslots : slots + N' ≤ R.slots) (hdg : decode cc pc = .ok (.newarray .long, 2))
    (kk : ∀ (q : Nat) (H1 : Heap), va_P E.2.2 vwCl (ws ++ [(q, .inl (E.2.1 3, N', .inr (.inl (fun _ => 0))))]) H1 → va_D A (ws ++ [(q, .inl (E.2.1 3, N', .inr (.inl (fun _ => 0))))]) → va_S A H0 H1 locs →
      W p l e R s m args below meth c H1 locs (cells + 1) (slots + N') Q (F0 m (pc + 2) ls (.ref q :: rest))) : W p l e R s m args below meth c H locs cells slots Q (F0 m pc ls (.int n :: rest)) :=
  va_newa (atype := .long) (ty := .long) (a0 := (N', .inr (.inl (fun _ => 0)))) hx hb harr rfl hK hP hD hS hA (fun cA => rfl) hn hN hbytes hcells hslots hdg (fun q cA H1 hK1 hP1 hD1 hS1 => by
    have e1 : cA = E.2.1 3 := gT_eq hK (k := 3) rfl (fun C h => by cases h) (hK1.2 4 (cA, .long) rfl).2
    subst e1
    exact kk q H1 hP1 hD1 hS1)
theorem c_pl (r : Nat → Nat) (n : Nat) (f : Nat → va_E) (v : va_E) : va_pl ([] ++ (List.range n).map r) (vr_up f ((List.range n).map r) v) = (List.range n).map (fun i => (r i, v)) := by
  unfold va_pl
  rw [List.nil_append, List.map_map]
  refine List.map_congr_left (fun i hi => ?_)
  show (r i, vr_up f ((List.range n).map r) v (r i)) = _
  rw [vr_up_in (List.mem_map.mpr ⟨i, hi, rfl⟩)]
theorem c_grid (hx : p.tables.exec = Jvm.exec) (hb : c.code = cc) {own : String} {index : Nat} (hown : s.vm.findClass own = some m.cls) (hcl : (Cond.classLink own index "[[I").before args s = true) (hover : va_AOA .int s) (harr : (Cond.arrayClass .int).before args s = true) (hK : va_K E.2.2 vwCl (gT E) s) (hP : va_P E.2.2 vwCl ws H) (hD : va_D A ws) (hS : va_S A H0 H locs) (hA : ∀ q, H0.size ≤ q → A q)
    {n k : Int32} (N' K' : Nat) (hn : ¬ n < 0) (hk : ¬ k < 0) (hN : n.toNatClampNeg = N') (hM : k.toNatClampNeg = K') (hb1 : N' * 4 ≤ 536870912) (hb2 : K' * 4 ≤ 536870912) (hcells : cells + (1 + N') ≤ R.cells) (hslots : slots + (N' + N' * K') ≤ R.slots) (hdg : decode cc pc = .ok (.multianewarray index 2, 4))
    (kk : ∀ (q : Nat) (r : Nat → Nat) (H1 : Heap), va_P E.2.2 vwCl ((ws ++ [(q, .inl (E.2.1 2, N', .inr (.inr (.inr (.inr (fun i => if i < N' then some (r i) else none))))))]) ++ (List.range N').map (fun i => (r i, .inl (E.2.1 0, K', .inl (fun _ => 0))))) H1 → va_D A ((ws ++ [(q, .inl (E.2.1 2, N', .inr (.inr (.inr (.inr (fun i => if i < N' then some (r i) else none))))))]) ++ (List.range N').map (fun i => (r i, .inl (E.2.1 0, K', .inl (fun _ => 0))))) → va_S A H0 H1 locs →
      W p l e R s m args below meth c H1 locs (cells + 1 + N') (slots + N' + N' * K') Q (F0 m (pc + 4) ls (.ref q :: rest))) : W p l e R s m args below meth c H locs cells slots Q (F0 m pc ls (.int k :: .int n :: rest)) := by
  have hcy : s.vm.findClass (FieldType.array .int).toString = some (E.2.1 0) := (hK.2 0 _ rfl).2
  have e0 : ws ++ va_pl [] (fun _ => .inr (0, [])) = ws := List.append_nil ws
  refine va_mna (X := ws) (L := []) (f := fun _ => .inr (0, [])) (ty := .int) (cy := E.2.1 0) (z := (K', .inl (fun _ => 0))) hx hb hown hcl hover harr hcy hK (by rw [e0]; exact hP) (by rw [e0]; exact hD) hS hA hn hk hN hM hb1 hb2 (by omega) rfl rfl hcells hslots (fun c => ?_) hdg (fun q r cA H1 _ _ hK1 hP1 hD1 hS1 => ?_)
  · rw [vp_cell_i]
    show _ = arrV c K' (fun _ => defaultValue .int)
    rw [← arrV_new]
    rfl
  · have e1 : cA = E.2.1 2 := gT_eq hK (k := 2) rfl (fun C h => by cases h) (hK1.2 4 (cA, .array .int) rfl).2
    subst e1
    rw [c_pl] at hP1 hD1
    exact kk q r H1 hP1 hD1 hS1
end GC
