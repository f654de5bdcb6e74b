theorem whyLate_X {σ : St} {i : Nat} (mk : Int32) (h : i < 60) : f_X2_whyLate (nI i) mk σ = some (if lateC σ mk i then (if σ 14 i = -1 then 3 else if σ 15 i ≤ mk then 1 else 2) else 0, σ) := by
  unfold f_X2_whyLate
  have hc : (nI i).toNatClampNeg = i := nI_clamp (by omega)
  rw [isLate_X mk h, bd_d]
  cases hl : lateC σ mk i with
  | false => simp
  | true =>
    simp only [if_true, ixb_nI h (by decide), rd, hc, ck_d, z10, if_false]
    by_cases h1 : σ 14 i = -1
    · simp [h1]
    · by_cases h2 : σ 15 i ≤ mk <;> simp [h1, h2]
theorem reason_M {τ : St} {i : Nat} (h : i < 60) : f_X5_reason (nI i) τ = some (if lateM τ i then (if 0 ≤ τ 50 i then (if τ 52 i ≤ τ 39 2 then 1 else 2) else 3) else 0, τ) := by
  unfold f_X5_reason
  have hc : (nI i).toNatClampNeg = i := nI_clamp (by omega)
  rw [isLate_M h, bd_d]
  cases hl : lateM τ i with
  | false => simp
  | true =>
    simp only [if_true, ixb_nI h (by decide), rd, hc, ck_d, z10, if_false]
    by_cases h1 : 0 ≤ τ 50 i
    · by_cases h2 : τ 52 i ≤ τ 39 2 <;> simp [h1, h2]
    · simp [h1]
theorem RunR.thr {σ τ : St} {N : Nat} (R : RunR σ τ N) (x : Int32) : RunR σ (wf τ 39 0 x) N := R.keep (fun _ _ => rfl) (fun k h1 h2 => wf0k τ x (by omega)) (wf0n τ x (by decide)) (wf0n τ x (by decide))
theorem CallR.sent {σ τ : St} {i : Nat} (h : CallR σ τ i) : (0 ≤ τ 50 i ↔ ¬ σ 14 i = -1) ∧ (¬ σ 14 i = -1 → σ 15 i = τ 52 i ∧ σ 16 i = τ 51 i) := by
  have hs := unit_sign h.unit
  obtain ⟨⟨a1, a2, a3, a4⟩, m, -, -, a5⟩ := h
  rw [← a4]
  refine ⟨hs.2, fun hn => ?_⟩
  rcases a5 with a5 | ⟨-, b1, b2, -⟩
  · exact absurd a5 hn
  · exact ⟨b1, b2⟩
theorem oc_val {σ τ : St} (T : Two σ τ) {L : List String} {r1 r2 : Int32} (e : r1 = r2) : ∃ rx σ' rm τ', some ((.inl r1 : Ex), σ) = some (rx, σ') ∧ some (r2, wf τ 39 0 0) = some (rm, τ') ∧ Two σ' τ' ∧ FrA σ σ' ∧ FrB τ τ' ∧ Oc L rx (τ' 39 0) rm :=
  ⟨_, _, _, _, rfl, rfl, T.thrown 0, fun _ _ => rfl, fun k hk => wf0k τ 0 (by omega), Or.inl ⟨_, rfl, wf0 τ 0, e.symm⟩⟩
theorem op_call (a b : Int32) : Op ["java/lang/IllegalArgumentException"] (f_X4_call a b) (f_X5_call a b) := by
  intro σ τ T
  have T0 := T
  obtain ⟨S, A, U, sx, sy, ax, ay, w, p, mk, st, N, c1, c2, r⟩ := T
  have hN := r.1.1
  have x1 := r.1.2.1
  have y1 := r.1.2.2
  have x4 := c1.2.1.2.2.2.2.1
  have y4 : (wf τ 39 0 0) 39 2 = nI mk := by rw [wf0n _ _ (by decide)]; exact c2.1.2.2.2.2
  unfold f_X4_call f_X5_call
  rw [x1, y1]
  rcases below_b a (n := N) (by omega) σ τ with ⟨e1, e2, i, hi, rfl⟩ | ⟨e1, e2⟩
  · have h60 : i < 60 := by omega
    have hc : (nI i).toNatClampNeg = i := nI_clamp (by omega)
    have hcall := (r.thr 0).2.1 i hi
    have hsent := hcall.sent
    obtain ⟨⟨a1, a2, a3, a4⟩, -⟩ := hcall
    rcases within_b b 0 5 (l := 0) (h := 5) rfl rfl (by omega) (by omega) σ τ with ⟨-, e4, k, -, hk, rfl⟩ | ⟨-, e4, hno⟩
    · have hk6 : k = 0 ∨ k = 1 ∨ k = 2 ∨ k = 3 ∨ k = 4 ∨ k = 5 := by omega
      rcases hk6 with rfl | rfl | rfl | rfl | rfl | rfl
      · have q : nI 0 = (0 : Int32) := rfl
        rw [q] at e4
        simp only [q, lt_d, e1, e2, e4, bd_d, z10, if_true, if_false, kn_1, bx_l, thr_0, ixb_nI h60 (by decide), ck_d, rd, hc]
        exact oc_val T0 a1
      · have q : nI 1 = (1 : Int32) := rfl
        rw [q] at e4
        simp only [q, lt_d, e1, e2, e4, bd_d, z10, if_true, if_false, kn_1, bx_l, thr_0, ixb_nI h60 (by decide), ck_d, rd, hc]
        exact oc_val T0 a2
      · have q : nI 2 = (2 : Int32) := rfl
        have p0 : ((2 : Int32) = 0) = False := by simp
        have p1 : ((2 : Int32) = 1) = False := by simp
        rw [q] at e4
        simp only [q, lt_d, e1, e2, e4, bd_d, z10, if_true, if_false, kn_1, bx_l, thr_0, ixb_nI h60 (by decide), ck_d, rd, hc, p0, p1]
        exact oc_val T0 a3
      · have q : nI 3 = (3 : Int32) := rfl
        have p0 : ((3 : Int32) = 0) = False := by simp
        have p1 : ((3 : Int32) = 1) = False := by simp
        have p2 : ((3 : Int32) = 2) = False := by simp
        rw [q] at e4
        simp only [q, lt_d, e1, e2, e4, bd_d, z10, if_true, if_false, kn_1, bx_l, thr_0, ixb_nI h60 (by decide), ck_d, rd, hc, p0, p1, p2]
        exact oc_val T0 a4
      · have q : nI 4 = (4 : Int32) := rfl
        have p0 : ((4 : Int32) = 0) = False := by simp
        have p1 : ((4 : Int32) = 1) = False := by simp
        have p2 : ((4 : Int32) = 2) = False := by simp
        have p3 : ((4 : Int32) = 3) = False := by simp
        rw [q] at e4
        simp only [q, lt_d, e1, e2, e4, bd_d, z10, if_true, if_false, kn_1, bx_l, thr_0, ixb_nI h60 (by decide), ck_d, rd, hc, p0, p1, p2, p3, delay_X h60]
        by_cases hu : σ 14 i = -1
        · rw [if_pos hu, if_neg (fun z => hsent.1.mp z hu)]
          exact oc_val T0 rfl
        · rw [if_neg hu, if_pos (hsent.1.mpr hu)]
          exact oc_val T0 (by rw [(hsent.2 hu).2, a1])
      · have q : nI 5 = (5 : Int32) := rfl
        have p0 : ((5 : Int32) = 0) = False := by simp
        have p1 : ((5 : Int32) = 1) = False := by simp
        have p2 : ((5 : Int32) = 2) = False := by simp
        have p3 : ((5 : Int32) = 3) = False := by simp
        have p4 : ((5 : Int32) = 4) = False := by simp
        rw [q] at e4
        simp only [q, lt_d, e1, e2, e4, bd_d, z10, if_true, if_false, kn_1, bx_l, thr_0, p0, p1, p2, p3, p4, whyLate_X _ h60, reason_M h60]
        refine oc_val T0 ?_
        rw [x4, ← late_eq (r.thr 0) y4 i hi]
        cases lateC σ (nI mk) i with
        | false => rfl
        | true =>
          simp only [if_true]
          by_cases hu : σ 14 i = -1
          · rw [if_pos hu, if_neg (fun z => hsent.1.mp z hu)]
          · rw [if_neg hu, if_pos (hsent.1.mpr hu), (hsent.2 hu).1, y4]
    · have n0 : ¬ b = 0 := fun e => hno ⟨0, by omega, by omega, e⟩
      have n1 : ¬ b = 1 := fun e => hno ⟨1, by omega, by omega, e⟩
      have n2 : ¬ b = 2 := fun e => hno ⟨2, by omega, by omega, e⟩
      have n3 : ¬ b = 3 := fun e => hno ⟨3, by omega, by omega, e⟩
      have n4 : ¬ b = 4 := fun e => hno ⟨4, by omega, by omega, e⟩
      have n5 : ¬ b = 5 := fun e => hno ⟨5, by omega, by omega, e⟩
      simp only [lt_d, e1, e2, e4, bd_d, z10, if_true, if_false, kn_1, bx_l, thr_1, n0, n1, n2, n3, n4, n5]
      exact T0.refused (i := 0) rfl rfl _
  · simp only [lt_d, e1, e2, bd_d, z10, if_true, if_false, kn_0, bx_r, thr_1]
    exact T0.refused (i := 0) rfl rfl _
/-- the mean -/
theorem psum_s (w : Nat → Nat) (n : Nat) : psum w (n + 1) = psum w n + w n := rfl
theorem psum_cap {w : Nat → Nat} {B : Nat} : ∀ n, (∀ a, a < n → w a ≤ B) → psum w n ≤ B * n
  | 0, _ => Nat.zero_le _
  | n + 1, h => by
    have h1 := psum_cap n (fun a ha => h a (by omega))
    have h2 := h n (by omega)
    rw [psum_s, Nat.mul_add, Nat.mul_one]
    omega
def wd (σ : St) (i : Nat) : Nat := if σ 14 i = -1 then 0 else (σ 16 i - σ 35 i).toNatClampNeg
theorem CallR.dly {σ τ : St} {i : Nat} (h : CallR σ τ i) : wd σ i ≤ 61440 ∧ (¬ σ 14 i = -1 → σ 16 i - σ 35 i = nI (wd σ i)) ∧ (¬ σ 14 i = -1 → τ 51 i - τ 46 i = nI (wd σ i)) := by
  obtain ⟨⟨a1, a2, a3, a4⟩, m, hm, e, a5⟩ := h
  unfold wd
  rcases a5 with a5 | ⟨⟨u, hu, hu2⟩, b1, b2, t, ht, h1, h2⟩
  · rw [if_pos a5]
    exact ⟨by omega, fun z => absurd a5 z, fun z => absurd a5 z⟩
  · have hn : ¬ σ 14 i = -1 := by rw [hu2]; exact enc_some_ne (by omega)
    rw [if_neg hn, ← b2, ← a1, ht, e, pk_sub h1, nI_clamp (by omega)]
    exact ⟨by omega, fun _ => rfl, fun _ => rfl⟩
theorem sum_X {σ : St} {N : Nat} (hN : σ 34 4 = nI N) (h60 : N ≤ 60) (hw : ∀ i, i < N → wd σ i ≤ 61440 ∧ (¬ σ 14 i = -1 → σ 16 i - σ 35 i = nI (wd σ i))) : f_X2_sumOfDelays σ = some (lN (psum (wd σ) N), σ) := by
  unfold f_X2_sumOfDelays
  refine loop_v (fun n j a => f_X2_sumOfDelays_L4 (fun y s => some (y, s)) n a (nI j) σ) (fun a => some (a, σ)) N (fun j => lN (psum (wd σ) j)) ?_ ?_ FU 0 (Nat.zero_le _) (by unfold FU; omega)
  · intro n
    show f_X2_sumOfDelays_L4 _ (n + 1) _ _ σ = _
    rw [f_X2_sumOfDelays_L4, hN, if_pos (nI_le (Nat.le_refl _) (by omega))]
  · intro n j hj
    show f_X2_sumOfDelays_L4 _ (n + 1) _ _ σ = f_X2_sumOfDelays_L4 _ n _ _ σ
    have hc : (nI j).toNatClampNeg = j := nI_clamp (by omega)
    have hwj := hw j hj
    rw [f_X2_sumOfDelays_L4, hN, if_neg (nI_ge hj (by omega)), ixb_nI (by omega) (by decide), ck_d, psum_s]
    simp only [rd, hc, delay_X (show j < 60 by omega), bd_d, lt_d, nI_s]
    by_cases hl : σ 14 j = -1
    · have hz : wd σ j = 0 := by unfold wd; rw [if_pos hl]
      rw [if_pos hl, hz]
      rfl
    · rw [if_neg hl, if_neg hl, hwj.2 hl, nI_l (by omega), lN_add]
theorem mean_M {τ : St} {N : Nat} {w : Nat → Nat} (K : Int32 → Int32 → St → Option (Int32 × St)) (hN : τ 39 12 = nI N) (h60 : N ≤ 60) (hw : ∀ i, i < N → (0 ≤ τ 50 i → τ 51 i - τ 46 i = nI (w i)) ∧ (¬ 0 ≤ τ 50 i → w i = 0)) : f_X5_mean_L6 K FU (0 : Int32) (0 : Int32) (0 : Int32) τ = K (nI (cnt (fun i => decide (0 ≤ τ 50 i)) N)) (nI (psum w N)) τ := by
  refine loop_v (fun n j (a : Int32 × Int32) => f_X5_mean_L6 K n a.1 a.2 (nI j) τ) (fun a => K a.1 a.2 τ) N (fun j => (nI (cnt (fun i => decide (0 ≤ τ 50 i)) j), nI (psum w j))) ?_ ?_ FU 0 (Nat.zero_le _) (by unfold FU; omega)
  · intro n
    show f_X5_mean_L6 _ (n + 1) _ _ _ τ = _
    rw [f_X5_mean_L6, hN, if_pos (nI_le (Nat.le_refl _) (by omega))]
  · intro n j hj
    show f_X5_mean_L6 _ (n + 1) _ _ _ τ = f_X5_mean_L6 _ n _ _ _ τ
    have hc : (nI j).toNatClampNeg = j := nI_clamp (by omega)
    have hwj := hw j hj
    rw [f_X5_mean_L6, hN, if_neg (nI_ge hj (by omega)), ixb_nI (by omega) (by decide), psum_s, cnt_s]
    simp only [ck_d, rd, hc, lt_d, nI_s]
    by_cases hl : 0 ≤ τ 50 j
    · simp only [hl, if_true, decide_true, hwj.1 hl, nI_add, nI_s]
    · simp only [hl, if_false, decide_false, hwj.2 hl, i0, Nat.add_zero, Bool.false_eq_true]
theorem op_mean : Op ["java/lang/ArithmeticException"] f_X4_mean f_X5_mean := by
  intro σ τ T
  have T0 := T
  obtain ⟨S, A, U, sx, sy, ax, ay, w, p, mk, st, N, c1, c2, r⟩ := T
  have hN := r.1.1
  have hcnt : cnt (fun i => decide (0 ≤ τ 50 i)) N = cnt (serv (σ 14)) N := cnt_congr N (fun i hi => by
    have := (r.2.1 i hi).sent.1
    unfold serv
    by_cases hu : σ 14 i = -1
    · have h0 : ¬ 0 ≤ τ 50 i := fun z => this.mp z hu
      simp [h0, hu]
    · simp [this.mpr hu, hu])
  have hcl := cnt_le (serv (σ 14)) N
  unfold f_X4_mean f_X5_mean
  rw [mean_M (w := wd σ) _ r.1.2.2 hN (fun i hi => ⟨fun z => (r.2.1 i hi).dly.2.2 ((r.2.1 i hi).sent.1.mp z), fun z => by
    have hu : σ 14 i = -1 := Decidable.byContradiction (fun q => z ((r.2.1 i hi).sent.1.mpr q))
    unfold wd
    rw [if_pos hu]⟩), hcnt, countServed_X r.1.2.1 hN]
  have hs := sum_X r.1.2.1 hN (fun i hi => ⟨(r.2.1 i hi).dly.1, (r.2.1 i hi).dly.2.1⟩)
  have hb := psum_cap (w := wd σ) (B := 61440) N (fun i hi => (r.2.1 i hi).dly.1)
  have hb2 : 61440 * N ≤ 61440 * 60 := Nat.mul_le_mul_left _ hN
  by_cases hz : cnt (serv (σ 14)) N = 0
  · rw [hz]
    have q : nI 0 = (0 : Int32) := rfl
    simp only [q, bd_d, lt_d, if_true, thr_1, z10, if_false]
    exact T0.refused (i := 0) rfl rfl _
  · have q : ¬ nI (cnt (serv (σ 14)) N) = (0 : Int32) := nI_ne0 (by omega) (by omega)
    have q2 : nzl (nI (cnt (serv (σ 14)) N)).toInt64 = true := by
      unfold nzl
      rw [nI_l (by omega)]
      refine decide_eq_true (fun z => hz ?_)
      have : lN (cnt (serv (σ 14)) N) = lN 0 := z
      exact (lN_eq (by omega) (by omega)).mp this
    simp only [bd_d, lt_d, q, if_false, if_true, thr_0, hs, q2, ck_d]
    exact oc_val T0 (by rw [nI_l (n := psum (wd σ) N) (by omega), Int64.mul_comm])
