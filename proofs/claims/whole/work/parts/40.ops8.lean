theorem op_unlucky (a sd n dy m : Int32) : Op ["java/lang/IllegalArgumentException", "java/lang/IndexOutOfBoundsException", "java/lang/IllegalStateException"] (f_X4_unlucky a sd n dy m) (f_X5_unlucky a sd n dy m) := by
  intro σ τ T
  have T0 := T
  obtain ⟨S, A, U, sx, sy, ax, ay, w, p, mk, st, N0, c1, c2, r⟩ := T
  have hA := c1.1.2.1
  have x2 := c1.2.1.2.1
  have y2 := c2.1.2.1
  unfold f_X4_unlucky f_X5_unlucky
  rcases below_l a 4 (m := 4) (l := 3) rfl (by decide) (by omega) σ τ with ⟨e1, e2, v, hv, rfl⟩ | ⟨e1, e2⟩
  · rcases within_b n 1 8 (l := 1) (h := 8) rfl rfl (by omega) (by omega) σ τ with ⟨e7, e8, k, hk1, hk2, rfl⟩ | ⟨e7, e8, -⟩
    · rcases below_l dy 1000 (m := 1000) (l := 999) rfl (by decide) (by omega) σ τ with ⟨e3, e4, d, hd, rfl⟩ | ⟨e3, e4⟩
      · rcases within_b m 0 60 (l := 0) (h := 60) rfl rfl (by omega) (by omega) σ τ with ⟨e5, e6, N, -, hN, rfl⟩ | ⟨e5, e6, -⟩
        · by_cases hst : N = 0 ∨ 0 < A
          · obtain ⟨K, hK⟩ : ∃ K : Int32 → St → Option (Ex × St), K = fun y s => bd (f_X2_forget s) (fun _ s' => some (.inl y, s')) := ⟨_, rfl⟩
            obtain ⟨K', hK'⟩ : ∃ K' : Int32 → St → Option (Int32 × St), K' = fun y s => bd (f_X5_forget s) (fun _ s' => some (y, s')) := ⟨_, rfl⟩
            obtain ⟨fo, σ1, τ1, f1, f2, C1, C2, fa, fb, h0⟩ := unl (n := k) hv hN hst sd (nI d) hk2 K K' k 0 FU σ (wf τ 39 0 0) (-1) sd (by omega) (by unfold FU; omega) c1 (c2.thr 0)
            obtain ⟨σ2, τ2, g1, g2, T2, fa2, fb2, h2⟩ := forget2 C1 C2
            have fin : ∃ rx s1 rm s2, K fo σ1 = some (rx, s1) ∧ K' fo τ1 = some (rm, s2) ∧ Two s1 s2 ∧ FrA σ s1 ∧ FrB τ s2 ∧ Oc ["java/lang/IllegalArgumentException", "java/lang/IndexOutOfBoundsException", "java/lang/IllegalStateException"] rx (s2 39 0) rm := by
              refine ⟨.inl fo, σ2, fo, τ2, ?_, ?_, T2, fa.tr fa2, fun q hq => by rw [(fb.tr fb2) q hq]; exact wf0k τ 0 (by omega), Or.inl ⟨fo, rfl, by rw [h2, h0]; exact wf0 τ 0, rfl⟩⟩
              · rw [hK]; show bd (f_X2_forget σ1) _ = _; rw [g1, bd_d]
              · rw [hK']; show bd (f_X5_forget τ1) _ = _; rw [g2, bd_d]
            have z0 : nI 0 = (0 : Int32) := rfl
            rw [z0] at f1 f2
            rw [← f1, ← f2, hK, hK'] at fin
            by_cases hz : N = 0
            · subst hz
              have q2 : (0 : Int32) ≤ 0 := by decide
              rw [z0] at e5 e6 fin
              simp only [z0, lt_d, e1, e2, e3, e4, e5, e6, e7, e8, isDay_M, bd_d, z10, if_true, if_false, kn_1, bx_l, rg_1, sa_1, q2, thr_0]
              exact fin
            · have q1 : ¬ nI N = (0 : Int32) := nI_ne0 (by omega) (by omega)
              have q2 : ¬ nI N ≤ (0 : Int32) := nI_nle (by omega) (by omega)
              have q3 : ¬ nI A ≤ (0 : Int32) := nI_nle (by omega) (by omega)
              have q4 : ¬ nI A = (0 : Int32) := nI_ne0 (by omega) (by omega)
              simp only [x2, y2, lt_d, e1, e2, e3, e4, e5, e6, e7, e8, isDay_M, bd_d, z10, if_true, if_false, kn_1, bx_l, rg_1, sa_1, q1, q2, q3, q4, thr_0]
              exact fin
          · have hN0 : ¬ N = 0 := fun z => hst (Or.inl z)
            have hA0 : A = 0 := by omega
            subst hA0
            have q1 : ¬ nI N = (0 : Int32) := nI_ne0 (by omega) (by omega)
            have q2 : ¬ nI N ≤ (0 : Int32) := nI_nle (by omega) (by omega)
            have q3 : nI 0 ≤ (0 : Int32) := by decide
            have q4 : nI 0 = (0 : Int32) := rfl
            simp only [x2, y2, lt_d, e1, e2, e3, e4, e5, e6, e7, e8, isDay_M, bd_d, z10, if_true, if_false, kn_1, bx_l, rg_1, sa_0, bx_r, q1, q2, q3, q4, thr_3]
            exact T0.refused (i := 2) rfl rfl _
        · simp only [lt_d, e1, e2, e3, e4, e5, e6, e7, e8, isDay_M, bd_d, z10, if_true, if_false, kn_1, bx_l, rg_0, bx_r, thr_2, ite_self]
          exact T0.refused (i := 1) rfl rfl _
      · simp only [lt_d, e1, e2, e3, e4, e7, e8, isDay_M, bd_d, z10, if_true, if_false, kn_1, bx_l, rg_0, bx_r, thr_2, ite_self]
        exact T0.refused (i := 1) rfl rfl _
    · simp only [lt_d, e1, e2, e7, e8, isDay_M, bd_d, z10, if_true, if_false, kn_1, bx_l, rg_0, bx_r, thr_2, ite_self]
      exact T0.refused (i := 1) rfl rfl _
  · simp only [lt_d, e1, e2, bd_d, z10, if_true, if_false, kn_0, bx_r, thr_1, ite_self]
    rcases within_b n 1 8 (l := 1) (h := 8) rfl rfl (by omega) (by omega) σ τ with ⟨e7, e8, k, hk1, hk2, rfl⟩ | ⟨e7, e8, -⟩
    · rcases below_l dy 1000 (m := 1000) (l := 999) rfl (by decide) (by omega) σ τ with ⟨e3, e4, d, hd, rfl⟩ | ⟨e3, e4⟩
      · rcases within_b m 0 60 (l := 0) (h := 60) rfl rfl (by omega) (by omega) σ τ with ⟨e5, e6, N, -, hN, rfl⟩ | ⟨e5, e6, -⟩ <;>
        · simp only [e2, e4, e6, e8, isDay_M, bd_d, z10, if_true, if_false, thr_1, ite_self]
          exact T0.refused (i := 0) rfl rfl _
      · simp only [e2, e4, e8, isDay_M, bd_d, z10, if_true, if_false, thr_1, ite_self]
        exact T0.refused (i := 0) rfl rfl _
    · simp only [e2, e8, isDay_M, bd_d, z10, if_true, if_false, thr_1, ite_self]
      exact T0.refused (i := 0) rfl rfl _
/-! coins -/
def wys (n : Nat) : Nat → Nat
  | 0 => 1
  | k + 1 => wys n k * (n - k) / (k + 1)
theorem wys_s (n k : Nat) : wys n (k + 1) = wys n k * (n - k) / (k + 1) := rfl
theorem wys_le : ∀ n, n < 21 → ∀ k, k < 22 → wys n k ≤ 184756 := by decide +kernel
def hds (n h : Nat) : Nat → Nat
  | 0 => 0
  | k + 1 => hds n h k + (if k < h then 0 else wys n k)
theorem hds_s (n h k : Nat) : hds n h (k + 1) = hds n h k + (if k < h then 0 else wys n k) := rfl
theorem hds_le {n h : Nat} (hn : n < 21) : ∀ k, k ≤ 21 → hds n h k ≤ 184756 * k
  | 0, _ => Nat.zero_le _
  | k + 1, hk => by
    have h1 := hds_le (h := h) hn k (by omega)
    have h2 := wys_le n hn k (by omega)
    rw [hds_s, Nat.mul_add, Nat.mul_one]
    split <;> omega
theorem heads_X {n h : Nat} (hn : n < 21) (hh : h ≤ n) (σ : St) : f_X4_waysOfHeads (nI n) (nI h) σ = some (nI (hds n h (n + 1)), σ) := by
  unfold f_X4_waysOfHeads
  refine loop_v (fun f j (a : Int32 × Int32) => f_X4_waysOfHeads_L7 (nI n) (nI h) (fun (y_10 : Int32) (σ_11 : St) => some (y_10, σ_11)) f a.1 a.2 (nI j) σ) (fun a => some (a.1, σ)) (n + 1) (fun j => (nI (hds n h j), nI (wys n j))) ?_ ?_ FU 0 (Nat.zero_le _) (by unfold FU; omega)
  · intro f
    show f_X4_waysOfHeads_L7 _ _ _ (f + 1) _ _ _ σ = _
    rw [f_X4_waysOfHeads_L7, if_pos (nI_lt (by omega) (by omega))]
  · intro f j hj
    show f_X4_waysOfHeads_L7 _ _ _ (f + 1) _ _ _ σ = f_X4_waysOfHeads_L7 _ _ _ f _ _ _ σ
    have hw := wys_le n hn j (by omega)
    have hm : wys n j * (n - j) ≤ 184756 * 20 := Nat.mul_le_mul hw (by omega)
    rw [f_X4_waysOfHeads_L7, if_neg (nI_nlt (by omega) (by omega))]
    simp only [lt_d, nI_s, nzb_nI (show 0 < j + 1 by omega) (by omega), ck_d, pk_sub (show j ≤ n by omega), pk_mul, pk_div (show wys n j * (n - j) < 2 ^ 31 by omega) (show 0 < j + 1 by omega) (by omega), hds_s, wys_s]
    by_cases e : j < h
    · rw [if_pos (nI_lt e (by omega)), if_pos e, Nat.add_zero (hds n h j)]
    · rw [if_neg (nI_nlt (by omega) (by omega)), if_neg e, nI_add]
theorem heads_M {n h : Nat} (hn : n < 21) (hh : h ≤ n) (σ : St) : f_X5_tail (nI n) (nI h) σ = some (lN (hds n h (n + 1)), σ) := by
  unfold f_X5_tail
  refine loop_v (fun f j (a : Int64 × Int64) => f_X5_tail_L8 (nI n) (nI h) (fun (y_10 : Int64) (σ_11 : St) => some (y_10, σ_11)) f a.1 a.2 (nI j) σ) (fun a => some (a.1, σ)) (n + 1) (fun j => (lN (hds n h j), lN (wys n j))) ?_ ?_ FU 0 (Nat.zero_le _) (by unfold FU; omega)
  · intro f
    show f_X5_tail_L8 _ _ _ (f + 1) _ _ _ σ = _
    rw [f_X5_tail_L8, if_pos (nI_lt (by omega) (by omega))]
  · intro f j hj
    show f_X5_tail_L8 _ _ _ (f + 1) _ _ _ σ = f_X5_tail_L8 _ _ _ f _ _ _ σ
    have hw := wys_le n hn j (by omega)
    have hm : wys n j * (n - j) ≤ 184756 * 20 := Nat.mul_le_mul hw (by omega)
    have hnz : nzl (lN (j + 1)) = true := decide_eq_true (lN_ne0 (by omega) (by omega))
    have hz : lN (hds n h j) + (0 : Int64) = lN (hds n h j) := lN_add _ 0
    rw [f_X5_tail_L8, if_neg (nI_nlt (by omega) (by omega))]
    simp only [lt_d, nI_s, pk_sub (show j ≤ n by omega), nI_l (show j + 1 < 2 ^ 31 by omega), nI_l (show n - j < 2 ^ 31 by omega), hnz, ck_d, lN_mul, pk_lDiv (show wys n j * (n - j) < 2 ^ 63 by omega) (show 0 < j + 1 by omega) (show j + 1 < 2 ^ 63 by omega), hds_s, wys_s]
    by_cases e : j < h
    · rw [if_pos (nI_lt e (by omega)), if_pos e, Nat.add_zero (hds n h j), hz]
    · rw [if_neg (nI_nlt (by omega) (by omega)), if_neg e, lN_add]
theorem shl_X : ∀ c, c < 21 → ((1 : Int32) <<< (nI c &&& 31)) = nI (2 ^ c) := by decide +kernel
theorem shl_M : ∀ c, c < 21 → ((1 : Int64) <<< (lN c &&& 63)) = lN (2 ^ c) := by decide +kernel
theorem pow_b : ∀ c, c < 21 → 0 < 2 ^ c ∧ 2 ^ c ≤ 1048576 := by decide +kernel
theorem day_b (n : Nat) (h1 : 1 ≤ n) (h2 : n ≤ 20) (dy : Int32) (σ τ : St) : (f_X4_isWithin dy 0 ((1000 : Int32) - nI n) σ = some (1, σ) ∧ f_X5_in dy 0 999 τ = some (1, τ) ∧ (dy + nI n) ≤ (1000 : Int32)) ∨ (f_X4_isWithin dy 0 ((1000 : Int32) - nI n) σ = some (0, σ) ∧ (f_X5_in dy 0 999 τ = some (0, τ) ∨ (f_X5_in dy 0 999 τ = some (1, τ) ∧ ¬ (dy + nI n) ≤ (1000 : Int32)))) := by
  have q : (1000 : Int32) - nI n = nI (1000 - n) := pk_sub (a := 1000) (by omega)
  rw [q]
  rcases within_b dy 0 999 (l := 0) (h := 999) rfl rfl (by omega) (by omega) σ τ with ⟨-, e2, d, -, hd, rfl⟩ | ⟨-, e2, hno⟩
  · by_cases hle : d ≤ 1000 - n
    · left
      refine ⟨?_, e2, ?_⟩
      · unfold f_X4_isWithin
        rw [if_neg (nI_nneg (by omega)), if_neg (nI_nlt (by omega) (by omega))]
      · rw [nI_add]
        exact nI_le (b := 1000) (by omega) (by omega)
    · right
      refine ⟨?_, Or.inr ⟨e2, ?_⟩⟩
      · unfold f_X4_isWithin
        rw [if_neg (nI_nneg (by omega)), if_pos (nI_lt (by omega) (by omega))]
      · rw [nI_add]
        exact nI_ge (a := 1000) (by omega) (by omega)
  · right
    refine ⟨?_, Or.inl e2⟩
    unfold f_X4_isWithin
    by_cases h0 : dy < 0
    · rw [if_pos h0]
    · obtain ⟨d, hd, rfl⟩ := nI_of h0
      have : ¬ d ≤ 999 := fun z => hno ⟨d, by omega, z, rfl⟩
      rw [if_neg h0, if_pos (nI_lt (by omega) (by omega))]
def cmpX (a6 : Int32) : Int32 → Int32 → St → Option (Ex × St) := fun (y_66 : Int32) (y_67 : Int32) (σ_68 : St) => bd (f_X2_forget σ_68) (fun r_69 σ_70 => if (2 : Int32) ≤ a6 then lt (y_66 + y_67) (fun x_73 => bd (f_X4_waysOfHeads x_73 y_66 σ_70) (fun r_74 σ_75 => if a6 = (2 : Int32) then bd (f_X4_lowestTerm r_74 (((1 : Int32) <<< (x_73 &&& 31))) (1 : Int32) σ_75) (fun r_81 σ_82 => some (.inl r_81, σ_82)) else bd (f_X4_lowestTerm r_74 (((1 : Int32) <<< (x_73 &&& 31))) (0 : Int32) σ_75) (fun r_78 σ_79 => some (.inl r_78, σ_79)))) else if a6 = (0 : Int32) then some (.inl y_66, σ_70) else some (.inl y_67, σ_70))
def cmpM (a6 : Int32) : Int32 → Int32 → St → Option (Int32 × St) := fun (y_59 : Int32) (y_60 : Int32) (σ_61 : St) => bd (f_X5_forget σ_61) (fun r_62 σ_63 => if (2 : Int32) ≤ a6 then lt ((1 : Int64) <<< ((y_59 + y_60).toInt64 &&& 63)) (fun x_66 => bd (f_X5_tail ((y_59 + y_60)) y_59 σ_63) (fun r_67 σ_68 => lt (fun (y_72 : Int64) (σ_73 : St) => bd (f_X5_common r_67 x_66 σ_73) (fun r_74 σ_75 => ck (nzl r_74) (some (((y_72 / r_74)).toInt32, σ_75)))) (fun J_71 => if a6 = (2 : Int32) then J_71 r_67 σ_68 else J_71 x_66 σ_68))) else if a6 = (0 : Int32) then some (y_59, σ_63) else some (y_60, σ_63))
theorem compare_X (a1 a2 a3 a4 a5 a6 : Int32) (σ : St) : f_X4_compare a1 a2 a3 a4 a5 a6 σ = bd (f_X4_isBelow a1 (4 : Int32) σ) (fun r_1 σ_2 => lt (fun (y_14 : Int32) (σ_15 : St) => bx (f_X4_needKnown y_14 σ_15) (fun r_16 σ_17 => bd (f_X4_isWithin a5 (1 : Int32) (20 : Int32) σ_17) (fun r_23 σ_24 => lt (fun (y_32 : Int32) (σ_33 : St) => bx (f_X4_needRange y_32 σ_33) (fun r_34 σ_35 => lt (fun (y_43 : Int32) (σ_44 : St) => bx (f_X4_needState y_43 σ_44) (fun r_45 σ_46 => f_X4_compare_L95 a1 a2 a3 a4 a5 a6 (cmpX a6) FU (0 : Int32) (0 : Int32) (0 : Int32) σ_46)) (fun J_42 => if (σ_35 1 6) ≤ (0 : Int32) then J_42 (0 : Int32) σ_35 else J_42 (1 : Int32) σ_35))) (fun J_27 => if r_23 = (0 : Int32) then J_27 (0 : Int32) σ_24 else bd (f_X4_isWithin a4 (0 : Int32) (((1000 : Int32) - a5)) σ_24) (fun r_28 σ_29 => if r_28 = (0 : Int32) then J_27 (0 : Int32) σ_29 else J_27 (1 : Int32) σ_29))))) (fun J_5 => if r_1 = (0 : Int32) then J_5 (0 : Int32) σ_2 else bd (f_X4_isBelow a2 (4 : Int32) σ_2) (fun r_6 σ_7 => if r_6 = (0 : Int32) then J_5 (0 : Int32) σ_7 else bd (f_X4_isWithin a6 (0 : Int32) (3 : Int32) σ_7) (fun r_10 σ_11 => if r_10 = (0 : Int32) then J_5 (0 : Int32) σ_11 else J_5 (1 : Int32) σ_11)))) := by
  unfold f_X4_compare cmpX
  rfl
theorem compare_M (a1 a2 a3 a4 a5 a6 : Int32) (σ : St) : f_X5_compare a1 a2 a3 a4 a5 a6 σ = bd (f_X5_in a1 (0 : Int32) (3 : Int32) σ) (fun r_1 σ_2 => lt (fun (y_14 : Int32) (σ_15 : St) => bd (f_X5_in a5 (1 : Int32) (20 : Int32) σ_15) (fun r_16 σ_17 => lt (fun (y_26 : Int32) (σ_27 : St) => lt (fun (y_30 : Int32) (σ_31 : St) => bd (f_X5_throwing y_14 y_26 y_30 σ_31) (fun r_32 σ_33 => if r_32 = (0 : Int32) then f_X5_compare_L106 a1 a2 a3 a4 a5 a6 (cmpM a6) FU (0 : Int32) (0 : Int32) (0 : Int32) σ_33 else some ((0 : Int32), σ_33))) (fun J_29 => if (σ_27 39 6) = (0 : Int32) then J_29 (1 : Int32) σ_27 else J_29 (0 : Int32) σ_27)) (fun J_20 => if r_16 = (0 : Int32) then J_20 (1 : Int32) σ_17 else bd (f_X5_isDay a4 σ_17) (fun r_21 σ_22 => if r_21 = (0 : Int32) then J_20 (1 : Int32) σ_22 else if (a4 + a5) ≤ (1000 : Int32) then J_20 (0 : Int32) σ_22 else J_20 (1 : Int32) σ_22)))) (fun J_5 => if r_1 = (0 : Int32) then J_5 (1 : Int32) σ_2 else bd (f_X5_in a2 (0 : Int32) (3 : Int32) σ_2) (fun r_6 σ_7 => if r_6 = (0 : Int32) then J_5 (1 : Int32) σ_7 else bd (f_X5_in a6 (0 : Int32) (3 : Int32) σ_7) (fun r_10 σ_11 => if r_10 = (0 : Int32) then J_5 (1 : Int32) σ_11 else J_5 (0 : Int32) σ_11)))) := by
  unfold f_X5_compare cmpM
  rfl
theorem cmp_end {q a' b' : Nat} (hq : q ≤ 3) (hab : a' + b' ≤ 20) {σ1 σ2 τ1 τ2 : St} (g1 : f_X2_forget σ1 = some (0, σ2)) (g2 : f_X5_forget τ1 = some (0, τ2)) : ∃ z, cmpX (nI q) (nI a') (nI b') σ1 = some (.inl z, σ2) ∧ cmpM (nI q) (nI a') (nI b') τ1 = some (z, τ2) := by
  have hc : a' + b' < 21 := by omega
  obtain ⟨p1, p2⟩ := pow_b (a' + b') hc
  have hd := hds_le (h := a') hc (a' + b' + 1) (by omega)
  have hg : 0 < Nat.gcd (hds (a' + b') a' (a' + b' + 1)) (2 ^ (a' + b')) := Nat.gcd_pos_of_pos_right _ p1
  have hg2 : Nat.gcd (hds (a' + b') a' (a' + b' + 1)) (2 ^ (a' + b')) ≤ 2 ^ (a' + b') := Nat.gcd_le_right _ p1
  have hX := heads_X hc (show a' ≤ a' + b' by omega) σ2
  have hM := heads_M hc (show a' ≤ a' + b' by omega) τ2
  have hl := low_X (a := hds (a' + b') a' (a' + b' + 1)) (b := 2 ^ (a' + b')) (by omega) p1 (by omega) σ2
  have hr := gcd_M (a := hds (a' + b') a' (a' + b' + 1)) (b := 2 ^ (a' + b')) (by omega) (by omega) τ2
  obtain ⟨H, hH⟩ : ∃ H, H = hds (a' + b') a' (a' + b' + 1) := ⟨_, rfl⟩
  obtain ⟨P, hP⟩ : ∃ P, P = 2 ^ (a' + b') := ⟨_, rfl⟩
  have s1 := shl_X (a' + b') hc
  have s2 := shl_M (a' + b') hc
  rw [← hH, ← hP] at hg hg2 hl hr
  rw [← hH] at hX hM hd
  rw [← hP] at s1 s2 p1 p2
  obtain ⟨G, hG⟩ : ∃ G, G = Nat.gcd H P := ⟨_, rfl⟩
  rw [← hG] at hg hg2 hl hr
  have w1 : lN H / lN G = lN (H / G) := pk_lDiv (by omega) hg (by omega)
  have w2 : lN P / lN G = lN (P / G) := pk_lDiv (by omega) hg (by omega)
  have w3 : nzl (lN G) = true := decide_eq_true (lN_ne0 hg (by omega))
  have w4 : (nI (a' + b')).toInt64 = lN (a' + b') := nI_l (by omega)
  unfold cmpX cmpM
  rw [g1, g2, bd_d, bd_d]
  have hq4 : q = 0 ∨ q = 1 ∨ q = 2 ∨ q = 3 := by omega
  rcases hq4 with rfl | rfl | rfl | rfl
  · refine ⟨nI a', ?_, ?_⟩
    · rw [if_neg (show ¬ (2 : Int32) ≤ nI 0 from nI_ge (b := 2) (by omega) (by omega)), if_pos (show nI 0 = (0 : Int32) from rfl)]
    · rw [if_neg (show ¬ (2 : Int32) ≤ nI 0 from nI_ge (b := 2) (by omega) (by omega)), if_pos (show nI 0 = (0 : Int32) from rfl)]
  · refine ⟨nI b', ?_, ?_⟩
    · rw [if_neg (show ¬ (2 : Int32) ≤ nI 1 from nI_ge (b := 2) (by omega) (by omega)), if_neg (nI_ne0 (n := 1) (by omega) (by omega))]
    · rw [if_neg (show ¬ (2 : Int32) ≤ nI 1 from nI_ge (b := 2) (by omega) (by omega)), if_neg (nI_ne0 (n := 1) (by omega) (by omega))]
  · have u1 : (2 : Int32) ≤ nI 2 := nI_le (a := 2) (by omega) (by omega)
    have u2 : nI 2 = (2 : Int32) := rfl
    refine ⟨nI (H / G), ?_, ?_⟩
    · rw [if_pos u1]
      simp only [u2, if_true, lt_d, nI_add, hX, bd_d, s1, hl.1]
    · rw [if_pos u1]
      simp only [u2, if_true, lt_d, nI_add, w4, s2, hM, bd_d, hr, w3, ck_d, w1, lN_i]
  · have u1 : (2 : Int32) ≤ nI 3 := nI_le (a := 2) (by omega) (by omega)
    have u2 : ¬ nI 3 = (2 : Int32) := fun z => absurd ((nI_eq (a := 3) (b := 2) (by omega) (by omega)).mp z) (by omega)
    refine ⟨nI (P / G), ?_, ?_⟩
    · rw [if_pos u1]
      simp only [u2, if_false, lt_d, nI_add, hX, bd_d, s1, hl.2]
    · rw [if_pos u1]
      simp only [u2, if_false, lt_d, nI_add, w4, s2, hM, bd_d, hr, w3, ck_d, w2, lN_i]
theorem op_compare (a b sd dy n wh : Int32) : Op ["java/lang/IllegalArgumentException", "java/lang/IndexOutOfBoundsException", "java/lang/IllegalStateException"] (f_X4_compare a b sd dy n wh) (f_X5_compare a b sd dy n wh) := by
  intro σ τ T
  have T0 := T
  obtain ⟨S, A, U, sx, sy, ax, ay, w, p, mk, st, N0, c1, c2, r⟩ := T
  have hA := c1.1.2.1
  have x2 := c1.2.1.2.1
  have y2 := c2.1.2.1
  rw [compare_X, compare_M]
  rcases below_l a 4 (m := 4) (l := 3) rfl (by decide) (by omega) σ τ with ⟨e1, e2, v, hv, rfl⟩ | ⟨e1, e2⟩
  · rcases below_l b 4 (m := 4) (l := 3) rfl (by decide) (by omega) σ τ with ⟨e5, e6, v2, hv2, rfl⟩ | ⟨e5, e6⟩
    · rcases within_b wh 0 3 (l := 0) (h := 3) rfl rfl (by omega) (by omega) σ τ with ⟨e9, e10, q, -, hq, rfl⟩ | ⟨e9, e10, -⟩
      · rcases within_b n 1 20 (l := 1) (h := 20) rfl rfl (by omega) (by omega) σ τ with ⟨e7, e8, k, hk1, hk2, rfl⟩ | ⟨e7, e8, -⟩
        · rcases day_b k hk1 hk2 dy σ τ with ⟨d1, d2, d3⟩ | ⟨d1, d2 | ⟨d2, d3⟩⟩
          · by_cases hA0 : A = 0
            · subst hA0
              have q3 : nI 0 ≤ (0 : Int32) := by decide
              have q4 : nI 0 = (0 : Int32) := rfl
              simp only [x2, y2, lt_d, e1, e2, e5, e6, e9, e10, bd_d, z10, if_true, if_false, kn_1, bx_l, e7, e8, isDay_M, d1, d2, d3, rg_1, sa_0, bx_r, q3, q4, thr_3]
              exact T0.refused (i := 2) rfl rfl _
            · obtain ⟨a', b', σ1, τ1, f1, f2, hab, C1, C2, fa, fb, h0⟩ := cmp (n := k) hv hv2 (by omega) sd dy (nI q) hk2 (cmpX (nI q)) (cmpM (nI q)) k 0 FU σ (wf τ 39 0 0) 0 0 (by omega) (by unfold FU; omega) (by omega) c1 (c2.thr 0)
              obtain ⟨σ2, τ2, g1, g2, T2, fa2, fb2, h2⟩ := forget2 C1 C2
              obtain ⟨z, k1, k2⟩ := cmp_end hq (show a' + b' ≤ 20 by omega) g1 g2
              have z0 : nI 0 = (0 : Int32) := rfl
              rw [z0] at f1 f2
              have q3 : ¬ nI A ≤ (0 : Int32) := nI_nle (by omega) (by omega)
              have q4 : ¬ nI A = (0 : Int32) := nI_ne0 (by omega) (by omega)
              simp only [x2, y2, lt_d, e1, e2, e5, e6, e9, e10, bd_d, z10, if_true, if_false, kn_1, bx_l, e7, e8, isDay_M, d1, d2, d3, rg_1, sa_1, q3, q4, thr_0, f1, f2, k1, k2]
              exact ⟨.inl z, σ2, z, τ2, rfl, rfl, T2, fa.tr fa2, fun q hq => by rw [(fb.tr fb2) q hq]; exact wf0k τ 0 (by omega), Or.inl ⟨z, rfl, by rw [h2, h0]; exact wf0 τ 0, rfl⟩⟩
          · simp only [lt_d, e1, e2, e5, e6, e9, e10, bd_d, z10, if_true, if_false, kn_1, bx_l, e7, e8, isDay_M, d1, d2, rg_0, bx_r, thr_2, ite_self]
            exact T0.refused (i := 1) rfl rfl _
          · simp only [lt_d, e1, e2, e5, e6, e9, e10, bd_d, z10, if_true, if_false, kn_1, bx_l, e7, e8, isDay_M, d1, d2, d3, rg_0, bx_r, thr_2, ite_self]
            exact T0.refused (i := 1) rfl rfl _
        · simp only [lt_d, e1, e2, e5, e6, e9, e10, bd_d, z10, if_true, if_false, kn_1, bx_l, e7, e8, isDay_M, rg_0, bx_r, thr_2, ite_self]
          exact T0.refused (i := 1) rfl rfl _
      · simp only [lt_d, e1, e2, e5, e6, e9, e10, bd_d, z10, if_true, if_false, kn_0, bx_r]
        rcases within_b n 1 20 (l := 1) (h := 20) rfl rfl (by omega) (by omega) σ τ with ⟨-, e8, -⟩ | ⟨-, e8, -⟩
        · rcases within_b dy 0 999 (l := 0) (h := 999) rfl rfl (by omega) (by omega) σ τ with ⟨-, e4, -⟩ | ⟨-, e4, -⟩ <;>
          · simp only [e8, e4, isDay_M, bd_d, lt_d, z10, if_true, if_false, thr_1, ite_self]
            exact T0.refused (i := 0) rfl rfl _
        · simp only [e8, bd_d, lt_d, z10, if_true, if_false, thr_1, ite_self]
          exact T0.refused (i := 0) rfl rfl _
    · simp only [lt_d, e1, e2, e5, e6, bd_d, z10, if_true, if_false, kn_0, bx_r]
      rcases within_b n 1 20 (l := 1) (h := 20) rfl rfl (by omega) (by omega) σ τ with ⟨-, e8, -⟩ | ⟨-, e8, -⟩
      · rcases within_b dy 0 999 (l := 0) (h := 999) rfl rfl (by omega) (by omega) σ τ with ⟨-, e4, -⟩ | ⟨-, e4, -⟩ <;>
        · simp only [e8, e4, isDay_M, bd_d, lt_d, z10, if_true, if_false, thr_1, ite_self]
          exact T0.refused (i := 0) rfl rfl _
      · simp only [e8, bd_d, lt_d, z10, if_true, if_false, thr_1, ite_self]
        exact T0.refused (i := 0) rfl rfl _
  · simp only [lt_d, e1, e2, bd_d, z10, if_true, if_false, kn_0, bx_r]
    rcases within_b n 1 20 (l := 1) (h := 20) rfl rfl (by omega) (by omega) σ τ with ⟨-, e8, -⟩ | ⟨-, e8, -⟩
    · rcases within_b dy 0 999 (l := 0) (h := 999) rfl rfl (by omega) (by omega) σ τ with ⟨-, e4, -⟩ | ⟨-, e4, -⟩ <;>
      · simp only [e8, e4, isDay_M, bd_d, lt_d, z10, if_true, if_false, thr_1, ite_self]
        exact T0.refused (i := 0) rfl rfl _
    · simp only [e8, bd_d, lt_d, z10, if_true, if_false, thr_1, ite_self]
      exact T0.refused (i := 0) rfl rfl _
