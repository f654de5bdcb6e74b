theorem below_l (x : Int32) (n : Nat) {m l : Int32} (em : m = nI n) (el : l = nI n - 1) (hn : n < 2147483648) (σ τ : St) : (f_X4_isBelow x m σ = some (1, σ) ∧ f_X5_in x 0 l τ = some (1, τ) ∧ ∃ j, j < n ∧ x = nI j) ∨ (f_X4_isBelow x m σ = some (0, σ) ∧ f_X5_in x 0 l τ = some (0, τ)) := by
  subst em
  subst el
  exact below_b x hn σ τ
/-- the reference's late calls -/
def lateM (τ : St) (i : Nat) : Bool := decide (τ 50 i < 0) || !decide (τ 51 i - τ 46 i ≤ τ 39 2)
theorem isLate_M {τ : St} {i : Nat} (h : i < 60) : f_X5_isLate (nI i) τ = some (if lateM τ i then 1 else 0, τ) := by
  unfold f_X5_isLate
  have hc : (nI i).toNatClampNeg = i := nI_clamp (by omega)
  simp only [ixb_nI h (by decide), rd, hc, ck_d, lateM]
  by_cases h1 : τ 50 i < 0
  · simp [h1]
  · by_cases h2 : τ 51 i - τ 46 i ≤ τ 39 2 <;> simp [h1, h2]
theorem late_M {τ : St} {N : Nat} (hN : τ 39 12 = nI N) (h60 : N ≤ 60) : f_X5_late τ = some (nI (cnt (lateM τ) N), τ) := by
  unfold f_X5_late
  refine loop_v (fun n j a => f_X5_late_L4 (fun y s => some (y, s)) n a (nI j) τ) (fun a => some (a, τ)) N (fun j => nI (cnt (lateM τ) j)) ?_ ?_ FU 0 (Nat.zero_le _) (by unfold FU; omega)
  · intro n
    show f_X5_late_L4 _ (n + 1) _ _ τ = _
    rw [f_X5_late_L4, hN, if_pos (nI_le (Nat.le_refl _) (by omega))]
  · intro n j hj
    show f_X5_late_L4 _ (n + 1) _ _ τ = f_X5_late_L4 _ n _ _ τ
    rw [f_X5_late_L4, hN, if_neg (nI_ge hj (by omega)), isLate_M (by omega), bd_d, cnt_s]
    by_cases hl : lateM τ j = true
    · simp only [hl, if_true, lt_d, nI_s]
      rw [if_neg (by decide)]
    · simp only [hl, lt_d, nI_s, i0]
      rfl
theorem unit_sign {x : Int32} (h : x = -1 ∨ ∃ u, u < 12 ∧ x = nI u) : (x < 0 ↔ x = -1) ∧ (0 ≤ x ↔ ¬ x = -1) := by
  rcases h with h | ⟨u, hu, h⟩
  · subst h; decide
  · subst h
    have h1 : ¬ nI u < (0 : Int32) := nI_nneg (by omega)
    have h2 : ¬ nI u = (-1 : Int32) := enc_some_ne (by omega)
    have h3 : (0 : Int32) ≤ nI u := nI_pos' (by omega)
    exact ⟨⟨fun z => absurd z h1, fun z => absurd z h2⟩, ⟨fun _ => h2, fun _ => h3⟩⟩
theorem CallR.unit {σ τ : St} {i : Nat} (h : CallR σ τ i) : σ 14 i = -1 ∨ ∃ u, u < 12 ∧ σ 14 i = nI u := by
  obtain ⟨-, m, -, -, h⟩ := h
  rcases h with h | ⟨h, -⟩
  · exact Or.inl h
  · exact Or.inr h
theorem late_eq {σ τ : St} {N : Nat} {mk : Int32} (R : RunR σ τ N) (hm : τ 39 2 = mk) : ∀ i, i < N → lateC σ mk i = lateM τ i := by
  intro i hi
  have hc := R.2.1 i hi
  have hs := unit_sign hc.unit
  obtain ⟨⟨a1, a2, a3, a4⟩, m, -, -, a5⟩ := hc
  unfold lateC lateM
  rw [← a4, hm, ← a1]
  rcases a5 with a5 | ⟨⟨u, hu, a5⟩, -, a6, -⟩
  · have h0 : σ 14 i < 0 := hs.1.mpr a5
    simp [a5]
  · have h2 : ¬ σ 14 i = -1 := by rw [a5]; exact enc_some_ne (by omega)
    have h0 : ¬ σ 14 i < 0 := fun z => h2 (hs.1.mp z)
    rw [a6]
    simp [h2, h0]
theorem isDay_M (x : Int32) (τ : St) : f_X5_isDay x τ = f_X5_in x 0 999 τ := by
  unfold f_X5_isDay f_X5_in
  by_cases h1 : x < 0
  · simp only [h1, if_true, bd_d]; rfl
  · by_cases h2 : (999 : Int32) < x
    · simp only [h1, h2, if_true, if_false, bd_d]; rfl
    · simp only [h1, h2, if_false, bd_d]; rfl
theorem CfM.thr {τ : St} {S A U : Nat} {sx sy ax ay w : Nat → Nat} {p mk : Nat} {st : Nat → Nat → Option Nat} (C : CfM τ S A U sx sy ax ay w p mk st) (x : Int32) : CfM (wf τ 39 0 x) S A U sx sy ax ay w p mk st := C.keep (fun k h1 h2 => wf0k τ x (by omega)) (fun j h1 _ _ => wf0n τ x h1)
theorem op_run (a sd dy n : Int32) : Op ["java/lang/IllegalArgumentException", "java/lang/IndexOutOfBoundsException", "java/lang/IllegalStateException"] (f_X4_run a sd dy n) (f_X5_run a sd dy n) := by
  intro σ τ T
  have T0 := T
  obtain ⟨S, A, U, sx, sy, ax, ay, w, p, mk, st, N0, c1, c2, r⟩ := T
  have hA := c1.1.2.1
  have x2 := c1.2.1.2.1
  have y2 := c2.1.2.1
  unfold f_X4_run f_X5_run
  rcases below_l a 4 (m := 4) (l := 3) rfl (by decide) (by omega) σ τ with ⟨e1, e2, v, hv, rfl⟩ | ⟨e1, e2⟩
  · rcases below_l dy 1000 (m := 1000) (l := 999) rfl (by decide) (by omega) σ τ with ⟨e3, e4, d, hd, rfl⟩ | ⟨e3, e4⟩
    · rcases within_b n 0 60 (l := 0) (h := 60) rfl rfl (by omega) (by omega) σ τ with ⟨e5, e6, N, -, hN, rfl⟩ | ⟨e5, e6, -⟩
      · by_cases hst : N = 0 ∨ 0 < A
        · obtain ⟨σ', τ', f1, f2, R, k1, k2, k3⟩ := run_both c1 (c2.thr 0) hv hN hst sd (nI d)
          have hmk : τ' 39 2 = nI mk := by rw [k2 2 (by decide) (by decide), wf0n _ _ (by decide)]; exact c2.1.2.2.2.2
          have f3 := late_M R.1.2.2 hN
          have hcl := cnt_congr N (late_eq R hmk)
          have m0 : τ' 39 0 = 0 := by rw [k2 0 (by decide) (by decide)]; exact wf0 τ 0
          have T' : Two σ' τ' := ⟨S, A, U, sx, sy, ax, ay, w, p, mk, st, N, c1.keep (fun k hk => k1 k (by omega)), (c2.thr 0).keep (fun k h1 h2 => k3 k (by omega) (by omega)) (fun j _ h1 h2 => k2 j h1 h2), R⟩
          have fin : ∃ rx s1 rm s2, some ((.inl (nI (cnt (lateC σ' (nI mk)) N)) : Ex), σ') = some (rx, s1) ∧ some (nI (cnt (lateM τ') N), τ') = some (rm, s2) ∧ Two s1 s2 ∧ FrA σ s1 ∧ FrB τ s2 ∧ Oc ["java/lang/IllegalArgumentException", "java/lang/IndexOutOfBoundsException", "java/lang/IllegalStateException"] rx (s2 39 0) rm :=
            ⟨_, _, _, _, rfl, rfl, T', fun k hk => k1 k (by omega), fun k hk => by rw [k3 k (by omega) (by omega)]; exact wf0k τ 0 (by omega), Or.inl ⟨_, rfl, m0, by rw [hcl]⟩⟩
          by_cases hz : N = 0
          · subst hz
            have q1 : nI 0 = (0 : Int32) := rfl
            have q2 : (0 : Int32) ≤ 0 := by decide
            rw [q1] at e5 e6 f1 f2
            simp only [q1, lt_d, e1, e2, e3, e4, e5, e6, isDay_M, bd_d, z10, if_true, if_false, kn_1, bx_l, rg_1, sa_1, q2, thr_0, f1, f2, f3]
            exact fin
          · have q1 : ¬ nI N = (0 : Int32) := nI_ne0 (by omega) (by omega)
            have q2 : ¬ nI N ≤ (0 : Int32) := nI_nle (by omega) (by omega)
            have q3 : ¬ nI A ≤ (0 : Int32) := nI_nle (by omega) (by omega)
            have q4 : ¬ nI A = (0 : Int32) := nI_ne0 (by omega) (by omega)
            simp only [x2, y2, lt_d, e1, e2, e3, e4, e5, e6, isDay_M, bd_d, z10, if_true, if_false, kn_1, bx_l, rg_1, sa_1, q1, q2, q3, q4, thr_0, f1, f2, f3]
            exact fin
        · have hN0 : ¬ N = 0 := fun z => hst (Or.inl z)
          have hA0 : A = 0 := by omega
          subst hA0
          have q1 : ¬ nI N = (0 : Int32) := nI_ne0 (by omega) (by omega)
          have q2 : ¬ nI N ≤ (0 : Int32) := nI_nle (by omega) (by omega)
          have q3 : nI 0 ≤ (0 : Int32) := by decide
          have q4 : nI 0 = (0 : Int32) := rfl
          simp only [x2, y2, lt_d, e1, e2, e3, e4, e5, e6, isDay_M, bd_d, z10, if_true, if_false, kn_1, bx_l, rg_1, sa_0, bx_r, q1, q2, q3, q4, thr_3]
          exact T0.refused (i := 2) rfl rfl _
      · simp only [lt_d, e1, e2, e3, e4, e5, e6, isDay_M, bd_d, z10, if_true, if_false, kn_1, bx_l, rg_0, bx_r, thr_2, ite_self]
        exact T0.refused (i := 1) rfl rfl _
    · simp only [lt_d, e1, e2, e3, e4, isDay_M, bd_d, z10, if_true, if_false, kn_1, bx_l, rg_0, bx_r, thr_2, ite_self]
      exact T0.refused (i := 1) rfl rfl _
  · simp only [lt_d, e1, e2, bd_d, z10, if_true, if_false, kn_0, bx_r, thr_1, ite_self]
    rcases below_l dy 1000 (m := 1000) (l := 999) rfl (by decide) (by omega) σ τ with ⟨e3, e4, d, hd, rfl⟩ | ⟨e3, e4⟩
    · rcases within_b n 0 60 (l := 0) (h := 60) rfl rfl (by omega) (by omega) σ τ with ⟨e5, e6, N, -, hN, rfl⟩ | ⟨e5, e6, -⟩ <;>
      · simp only [e4, e6, isDay_M, bd_d, z10, if_true, if_false, thr_1, ite_self]
        exact T0.refused (i := 0) rfl rfl _
    · simp only [e4, isDay_M, bd_d, z10, if_true, if_false, thr_1, ite_self]
      exact T0.refused (i := 0) rfl rfl _
theorem op_work (x : Int32) : Op ["java/lang/IllegalArgumentException"] (f_X4_work x) (f_X5_work x) := by
  intro σ τ T
  have T0 := T
  obtain ⟨S, A, U, sx, sy, ax, ay, w, p, mk, st, N, c1, c2, r⟩ := T
  have hU := c1.1.2.2.1
  have x3 := c1.2.1.2.2.1
  have y3 := c2.1.2.2.1
  unfold f_X4_work f_X5_work
  rcases below_b x (n := U) (by omega) σ τ with ⟨e1, e2, u, hu, rfl⟩ | ⟨e1, e2⟩
  · have hc : (nI u).toNatClampNeg = u := nI_clamp (by omega)
    simp only [x3, y3, lt_d, e1, e2, bd_d, z10, if_true, if_false, kn_1, bx_l, thr_0, ixb_nI (show u < 12 by omega) (by decide), ck_d, rd, hc, wf0k τ 0 (show 54 ≠ 39 by decide)]
    exact ⟨_, _, _, _, rfl, rfl, T0.thrown 0, fun _ _ => rfl, fun k hk => wf0k τ 0 (by omega), Or.inl ⟨_, rfl, wf0 τ 0, (r.2.2.1 u (by omega)).symm⟩⟩
  · simp only [x3, y3, lt_d, e1, e2, bd_d, z10, if_true, if_false, kn_0, bx_r, thr_1]
    exact T0.refused (i := 0) rfl rfl _
def arrM (τ : St) (t : Int32) (i : Nat) : Bool := !decide (τ 50 i < 0) && !decide (t < τ 51 i)
theorem arrived_M {τ : St} {N : Nat} (t : Int32) (hN : τ 39 12 = nI N) (h60 : N ≤ 60) : f_X5_arrived_L31 t (fun y s => some (y, s)) FU (0 : Int32) (0 : Int32) τ = some (nI (cnt (arrM τ t) N), τ) := by
  refine loop_v (fun n j a => f_X5_arrived_L31 t (fun y s => some (y, s)) n a (nI j) τ) (fun a => some (a, τ)) N (fun j => nI (cnt (arrM τ t) j)) ?_ ?_ FU 0 (Nat.zero_le _) (by unfold FU; omega)
  · intro n
    show f_X5_arrived_L31 _ _ (n + 1) _ _ τ = _
    rw [f_X5_arrived_L31, hN, if_pos (nI_le (Nat.le_refl _) (by omega))]
  · intro n j hj
    show f_X5_arrived_L31 _ _ (n + 1) _ _ τ = f_X5_arrived_L31 _ _ n _ _ τ
    have hc : (nI j).toNatClampNeg = j := nI_clamp (by omega)
    rw [f_X5_arrived_L31, hN, if_neg (nI_ge hj (by omega)), ixb_nI (by omega) (by decide), cnt_s]
    simp only [ck_d, rd, hc, lt_d, nI_s, i0]
    by_cases hl : τ 50 j < 0
    · have e : arrM τ t j = false := by simp [arrM, hl]
      rw [if_pos hl, e]; rfl
    · by_cases h2 : t < τ 51 j
      · have e : arrM τ t j = false := by simp [arrM, h2]
        rw [if_neg hl, if_pos h2, e]; rfl
      · have e : arrM τ t j = true := by simp [arrM, hl, h2]
        rw [if_neg hl, if_neg h2, e]; rfl
theorem op_arrived (x : Int32) : Op ["java/lang/IndexOutOfBoundsException"] (f_X4_arrived x) (f_X5_arrived x) := by
  intro σ τ T
  have T0 := T
  obtain ⟨S, A, U, sx, sy, ax, ay, w, p, mk, st, N, c1, c2, r⟩ := T
  unfold f_X4_arrived f_X5_arrived
  rcases within_b x 0 9999 (l := 0) (h := 9999) rfl rfl (by omega) (by omega) σ τ with ⟨e1, e2, -⟩ | ⟨e1, e2, -⟩
  · have f1 := countArrived_X (σ := σ) x r.1.2.1 r.1.1
    have f2 := arrived_M (τ := wf τ 39 0 0) x (by rw [wf0n _ _ (by decide)]; exact r.1.2.2) r.1.1
    simp only [lt_d, e1, e2, bd_d, z10, if_true, if_false, rg_1, bx_l, thr_0, f1, f2]
    refine ⟨_, _, _, _, rfl, rfl, T0.thrown 0, fun _ _ => rfl, fun k hk => wf0k τ 0 (by omega), Or.inl ⟨_, rfl, wf0 τ 0, ?_⟩⟩
    congr 1
    refine (cnt_congr N (fun i hi => ?_)).symm
    have hc := r.2.1 i hi
    have hs := unit_sign hc.unit
    obtain ⟨⟨a1, a2, a3, a4⟩, m, -, -, a5⟩ := hc
    unfold arrC arrM
    rw [wf0k τ 0 (by decide), wf0k τ 0 (by decide), ← a4]
    rcases a5 with a5 | ⟨⟨u, hu, a5⟩, -, a6, -⟩
    · have h0 : σ 14 i < 0 := hs.1.mpr a5
      simp [a5]
    · have h2 : ¬ σ 14 i = -1 := by rw [a5]; exact enc_some_ne (by omega)
      have h0 : ¬ σ 14 i < 0 := fun z => h2 (hs.1.mp z)
      rw [a6]
      simp [h2, h0]
  · simp only [lt_d, e1, e2, bd_d, z10, if_true, if_false, rg_0, bx_r, thr_1]
    exact T0.refused (i := 0) rfl rfl _
def OpV (fx fm : St → Option (Int32 × St)) : Prop := ∀ σ τ, Two σ τ → ∃ r σ' τ', fx σ = some (r, σ') ∧ fm τ = some (r, τ') ∧ Two σ' τ' ∧ FrA σ σ' ∧ FrB τ τ'
theorem OpV.seq {fx fm : St → Option (Int32 × St)} (h : OpV fx fm) {σ : St} (I : Inv σ) : ∃ r σ1 σ2, fx σ = some (r, σ1) ∧ fm σ1 = some (r, σ2) ∧ Inv σ2 := by
  obtain ⟨r, σ1, -, e1, -, -, fa, -⟩ := h σ σ I
  obtain ⟨r', σ1', σ2, e1', e2, T, fa', fb⟩ := h σ σ1 (Two.m I fa)
  rw [e1] at e1'
  cases e1'
  exact ⟨r, σ1, σ2, e1, e2, T.x fb⟩
theorem op_missed : OpV f_X4_missed f_X5_missed := by
  intro σ τ T
  have T0 := T
  obtain ⟨S, A, U, sx, sy, ax, ay, w, p, mk, st, N, c1, c2, r⟩ := T
  refine ⟨σ 13 10, σ, wf τ 39 0 0, rfl, ?_, T0.thrown 0, fun _ _ => rfl, fun k hk => wf0k τ 0 (by omega)⟩
  show some ((wf τ 39 0 0) 39 23, wf τ 39 0 0) = _
  rw [wf0n τ 0 (by decide), r.2.2.2]
