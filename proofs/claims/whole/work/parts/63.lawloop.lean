/-! the law: its loop -/
theorem lt7 {L i : Nat} (hL : L ≤ 3584) (hi : i ≤ 3600) : (nI L - (7 : Int32) < nI i) ↔ L < i + 7 := by
  rw [Int32.lt_iff_toInt_lt, show (7 : Int32) = nI 7 from rfl, pk_sub_toInt (by omega) (by omega), nI_toInt (by omega)]
  omega
set_option maxHeartbeats 4000000 in
set_option maxRecDepth 100000 in
theorem law_loop {p : Program} {l : Launch} {e : Env} {s : State} {m : MethodId} {b : Nat} {below : List Frame} {meth : Method} {c : Code} {E : En} {L : Nat} {xs : Nat → Int32} (X : Lx p l c s m meth E b L xs) : ∀ (n i : Nat), L < i + n → i ≤ L → ∀ (o : Int64) (σ : St) (H : Heap) (locs : List Loc) (ls : Array Slot) (cells slots : Nat), cells ≤ 60 + 3 * i → slots ≤ 3000 + 18 * i → Inv σ → Iv E (AL s) s.heap o σ H locs → lv_has ls 7 (lvL E b i) → LW p l e s m b below meth c H locs cells slots (F0 m 23 ls []) := by
  have X0 := X
  obtain ⟨C, hst, hlocks, hr, hZ, hN, hNy, hX, hbl, hL⟩ := X
  have hx := C.1.1
  have hb := C.1.2.1
  intro n
  induction n with
  | zero => intro i h1 h2; omega
  | succ n ih =>
    intro i h1 h2 o σ H locs ls cells slots hc hs hI I hl
    refine lv_iload hx hb dL_law_23 (lv_at hl 0 rfl) ?_
    refine lv_aload_n hx hb dL_law_25 rfl (lv_at hl 1 rfl) ?_
    refine va_slen hx hb hX hbl (Nat.not_le.mpr hbl) I.2.2 dL_law_26 ?_
    refine lv_bipush (v := (7 : Int32)) hx hb dL_law_27 (by decide) ?_
    refine lv_isub hx hb dL_law_29 ?_
    refine lv_icmp_gt (tgt := 1054) hx hb dL_law_30 (by decide) (fun c_30 => ?_) (fun c_30 => ?_)
    · refine lv_iconst (v := (1 : Int32)) hx hb dL_law_1054 (by decide) ?_
      refine va_forget (fun q hq => I.2.2.2.2 q hq) ?_
      refine W.widen (k := 601024) (n := 7293034) (by omega) (by omega) ?_
      exact lw_ret hx hb hr hlocks dL_law_1055
    · have hi : i + 7 ≤ L := by
        rcases Nat.lt_or_ge L (i + 7) with q | q
        · exact absurd ((lt7 (L := L) (i := i) hL (by omega)).mpr q) c_30
        · exact q
      have nx : Nxt p l e s m b below meth c E i cells slots := by
        intro o σ H locs ls cl sl k1 k2 hI I hl
        exact ih (i + 7) (by omega) (by omega) o σ H locs ls cl sl (by omega) (by omega) hI I hl
      refine lv_aload_n hx hb dL_law_33 rfl (lv_at hl 1 rfl) ?_
      refine lv_iload hx hb dL_law_34 (lv_at hl 0 rfl) ?_
      refine g_sld hx hb hX hbl I (i := i) (j := 0) (by omega) hL rfl dL_law_36 ?_
      refine lv_bipush (v := (15 : Int32)) hx hb dL_law_37 (by decide) ?_
      refine lv_iand hx hb dL_law_39 ?_
      generalize xs (i + 0) &&& (15 : Int32) = z
      by_cases c_0 : z = nI 0
      · refine lv_tableIn (tgt := 116) (off := 76) hx hb dL_law_40 (by rw [c_0]; decide) (by rw [c_0]; decide) (by rw [c_0]; rfl) (by decide) ?_
        exact law_station X0 hi (by omega) (by omega) nx o σ H locs ls hI I hl
      by_cases c_1 : z = nI 1
      · refine lv_tableIn (tgt := 184) (off := 144) hx hb dL_law_40 (by rw [c_1]; decide) (by rw [c_1]; decide) (by rw [c_1]; rfl) (by decide) ?_
        exact law_area X0 hi (by omega) (by omega) nx o σ H locs ls hI I hl
      by_cases c_2 : z = nI 2
      · refine lv_tableIn (tgt := 264) (off := 224) hx hb dL_law_40 (by rw [c_2]; decide) (by rw [c_2]; decide) (by rw [c_2]; rfl) (by decide) ?_
        exact law_unit X0 hi (by omega) (by omega) nx o σ H locs ls hI I hl
      by_cases c_3 : z = nI 3
      · refine lv_tableIn (tgt := 320) (off := 280) hx hb dL_law_40 (by rw [c_3]; decide) (by rw [c_3]; decide) (by rw [c_3]; rfl) (by decide) ?_
        exact law_change X0 hi (by omega) (by omega) nx o σ H locs ls hI I hl
      by_cases c_4 : z = nI 4
      · refine lv_tableIn (tgt := 380) (off := 340) hx hb dL_law_40 (by rw [c_4]; decide) (by rw [c_4]; decide) (by rw [c_4]; rfl) (by decide) ?_
        exact law_rules X0 hi (by omega) (by omega) nx o σ H locs ls hI I hl
      by_cases c_5 : z = nI 5
      · refine lv_tableIn (tgt := 428) (off := 388) hx hb dL_law_40 (by rw [c_5]; decide) (by rw [c_5]; decide) (by rw [c_5]; rfl) (by decide) ?_
        exact law_run X0 hi (by omega) (by omega) nx o σ H locs ls hI I hl
      by_cases c_6 : z = nI 6
      · refine lv_tableIn (tgt := 520) (off := 480) hx hb dL_law_40 (by rw [c_6]; decide) (by rw [c_6]; decide) (by rw [c_6]; rfl) (by decide) ?_
        exact law_call X0 hi (by omega) (by omega) nx o σ H locs ls hI I hl
      by_cases c_7 : z = nI 7
      · refine lv_tableIn (tgt := 588) (off := 548) hx hb dL_law_40 (by rw [c_7]; decide) (by rw [c_7]; decide) (by rw [c_7]; rfl) (by decide) ?_
        exact law_share X0 hi (by omega) (by omega) nx o σ H locs ls hI I hl
      by_cases c_8 : z = nI 8
      · refine lv_tableIn (tgt := 644) (off := 604) hx hb dL_law_40 (by rw [c_8]; decide) (by rw [c_8]; decide) (by rw [c_8]; rfl) (by decide) ?_
        exact law_mean X0 hi (by omega) (by omega) nx o σ H locs ls hI I hl
      by_cases c_9 : z = nI 9
      · refine lv_tableIn (tgt := 688) (off := 648) hx hb dL_law_40 (by rw [c_9]; decide) (by rw [c_9]; decide) (by rw [c_9]; rfl) (by decide) ?_
        exact law_missed X0 hi (by omega) (by omega) nx o σ H locs ls hI I hl
      by_cases c_10 : z = nI 10
      · refine lv_tableIn (tgt := 701) (off := 661) hx hb dL_law_40 (by rw [c_10]; decide) (by rw [c_10]; decide) (by rw [c_10]; rfl) (by decide) ?_
        exact law_work X0 hi (by omega) (by omega) nx o σ H locs ls hI I hl
      by_cases c_11 : z = nI 11
      · refine lv_tableIn (tgt := 757) (off := 717) hx hb dL_law_40 (by rw [c_11]; decide) (by rw [c_11]; decide) (by rw [c_11]; rfl) (by decide) ?_
        exact law_worst X0 hi (by omega) (by omega) nx o σ H locs ls hI I hl
      by_cases c_12 : z = nI 12
      · refine lv_tableIn (tgt := 770) (off := 730) hx hb dL_law_40 (by rw [c_12]; decide) (by rw [c_12]; decide) (by rw [c_12]; rfl) (by decide) ?_
        exact law_arrived X0 hi (by omega) (by omega) nx o σ H locs ls hI I hl
      by_cases c_13 : z = nI 13
      · refine lv_tableIn (tgt := 826) (off := 786) hx hb dL_law_40 (by rw [c_13]; decide) (by rw [c_13]; decide) (by rw [c_13]; rfl) (by decide) ?_
        exact law_unlucky X0 hi (by omega) (by omega) nx o σ H locs ls hI I hl
      by_cases c_14 : z = nI 14
      · refine lv_tableIn (tgt := 930) (off := 890) hx hb dL_law_40 (by rw [c_14]; decide) (by rw [c_14]; decide) (by rw [c_14]; rfl) (by decide) ?_
        exact law_compare X0 hi (by omega) (by omega) nx o σ H locs ls hI I hl
      refine lv_tableOut (tgt := 1048) hx hb dL_law_40 (sw_out 14 (fun k hk => by match k, hk with | 0, _ => exact c_0 | 1, _ => exact c_1 | 2, _ => exact c_2 | 3, _ => exact c_3 | 4, _ => exact c_4 | 5, _ => exact c_5 | 6, _ => exact c_6 | 7, _ => exact c_7 | 8, _ => exact c_8 | 9, _ => exact c_9 | 10, _ => exact c_10 | 11, _ => exact c_11 | 12, _ => exact c_12 | 13, _ => exact c_13 | 14, _ => exact c_14)) (by decide) ?_
      refine lv_iinc (v := nI (i + 7)) (lv' := lvL E b (i + 7)) hx hb dL_law_1048 hl (k := 0) rfl (nI_add i 7) (by decide) rfl (fun ls hl => ?_)
      refine lv_goto (tgt := 23) hx hb dL_law_1051 (by decide) ?_
      exact nx o σ H locs ls _ _ (by omega) (by omega) hI I hl
