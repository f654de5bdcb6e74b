/-! the worst hour -/
def inH (l : Nat → Bool) (m : Nat → Int32) (h i : Nat) : Bool := l i && decide (m i / (60 : Int32) = nI h)
def wst (c : Nat → Nat) : Nat → Int32 × Int32
  | 0 => (-1, 0)
  | h + 1 => if nI (c h) ≤ (wst c h).2 then wst c h else (nI h, nI (c h))
theorem wst_s (c : Nat → Nat) (h : Nat) : wst c (h + 1) = if nI (c h) ≤ (wst c h).2 then wst c h else (nI h, nI (c h)) := rfl
theorem wst_congr {c d : Nat → Nat} : ∀ n, (∀ h, h < n → c h = d h) → wst c n = wst d n
  | 0, _ => rfl
  | n + 1, h => by rw [wst_s, wst_s, wst_congr n (fun h' hh => h h' (by omega)), h n (by omega)]
theorem hours_X {σ : St} {N : Nat} (mk : Int32) (hN : σ 34 4 = nI N) (h60 : N ≤ 60) (hm : ∀ i, i < N → ∃ m, m < 1440 ∧ σ 35 i = nI m) :
    ∃ σ', f_X2_hourOfMostLate mk σ = some ((wst (fun h => cnt (inH (lateC σ mk) (σ 35) h) N) 24).1, σ') ∧ ∀ k, k ≠ 33 → σ' k = σ k := by
  unfold f_X2_hourOfMostLate
  obtain ⟨K3, hK3⟩ : ∃ K3 : St → Option (Int32 × St), K3 = fun s => f_X2_hourOfMostLate_L77 (fun (y_25 : Int32) (σ_26 : St) => some (y_25, σ_26)) FU (-1 : Int32) (0 : Int32) (0 : Int32) s := ⟨_, rfl⟩
  rw [← hK3]
  obtain ⟨K2, hK2⟩ : ∃ K2 : St → Option (Int32 × St), K2 = fun s => f_X2_hourOfMostLate_L23 mk K3 FU (0 : Int32) s := ⟨_, rfl⟩
  rw [← hK2]
  refine Exists.elim (loop_st (fun n j z => f_X2_hourOfMostLate_L2 mk K2 n (nI j) z) K2 24 (fun j z => (∀ u, u < j → z 33 u = 0) ∧ ∀ k, k ≠ 33 → z k = σ k) ?_ ?_ FU 0 σ (Nat.zero_le _) (by unfold FU; omega) ⟨fun u hu => absurd hu (Nat.not_lt_zero u), fun _ _ => rfl⟩) (fun σ1 h1 => ?_)
  · intro n z _
    show f_X2_hourOfMostLate_L2 _ _ (n + 1) _ z = _
    rw [f_X2_hourOfMostLate_L2, if_pos (show (24 : Int32) ≤ nI 24 from nI_le (a := 24) (Nat.le_refl _) (by omega))]
  · intro n j z hj ⟨z1, z2⟩
    have hcj : (nI j).toNatClampNeg = j := nI_clamp (by omega)
    refine ⟨va_up z 33 (upd (z 33) j 0), ?_, ?_, ?_⟩
    · show f_X2_hourOfMostLate_L2 _ _ (n + 1) _ z = f_X2_hourOfMostLate_L2 _ _ n _ _
      rw [f_X2_hourOfMostLate_L2, if_neg (show ¬ (24 : Int32) ≤ nI j from nI_ge (b := 24) hj (by omega))]
      simp only [ixb_nI hj (by decide), ck_d, wr, hcj, lt_d, nI_s]
    · intro i hi
      by_cases e : i = j
      · subst e; simp [va_up, upd]
      · have := z1 i (by omega)
        simpa [va_up, upd, e] using this
    · intro k k1
      rw [va_up_ne _ _ k1]; exact z2 k k1
  obtain ⟨e1, a1, a2⟩ := h1
  refine Exists.elim (loop_st (fun n j z => f_X2_hourOfMostLate_L23 mk K3 n (nI j) z) K3 N (fun j z => (∀ h, h < 24 → z 33 h = nI (cnt (inH (lateC σ mk) (σ 35) h) j)) ∧ ∀ k, k ≠ 33 → z k = σ k) ?_ ?_ FU 0 σ1 (Nat.zero_le _) (by unfold FU; omega) ⟨fun h hh => by rw [a1 h hh]; rfl, a2⟩) (fun σ2 h2 => ?_)
  · intro n z ⟨z1, z2⟩
    show f_X2_hourOfMostLate_L23 _ _ (n + 1) _ z = _
    rw [f_X2_hourOfMostLate_L23, z2 34 (by decide), hN, if_pos (nI_le (Nat.le_refl _) (by omega))]
  · intro n j z hj ⟨z1, z2⟩
    have hcj : (nI j).toNatClampNeg = j := nI_clamp (by omega)
    have hl : lateC z mk j = lateC σ mk j := by unfold lateC; rw [z2 14 (by decide), z2 16 (by decide), z2 35 (by decide)]
    obtain ⟨m, hm1, hm2⟩ := hm j hj
    have hdiv : σ 35 j / (60 : Int32) = nI (m / 60) := by
      rw [hm2]
      exact pk_div (d := 60) (by omega) (by omega) (by omega)
    have h24 : m / 60 < 24 := by omega
    have hcm : (nI (m / 60)).toNatClampNeg = m / 60 := nI_clamp (by omega)
    cases hlt : lateC σ mk j with
    | false =>
      refine ⟨z, ?_, fun h hh => ?_, z2⟩
      · show f_X2_hourOfMostLate_L23 _ _ (n + 1) _ z = f_X2_hourOfMostLate_L23 _ _ n _ _
        rw [f_X2_hourOfMostLate_L23, z2 34 (by decide), hN, if_neg (nI_ge hj (by omega)), isLate_X mk (by omega), hl, hlt, bd_d]
        simp only [lt_d, nI_s]
        rfl
      · rw [cnt_s, show inH (lateC σ mk) (σ 35) h j = false by unfold inH; rw [hlt]; rfl]
        exact z1 h hh
    | true =>
      refine ⟨va_up z 33 (upd (z 33) (m / 60) (z 33 (m / 60) + 1)), ?_, fun h hh => ?_, fun k hk => ?_⟩
      · show f_X2_hourOfMostLate_L23 _ _ (n + 1) _ z = f_X2_hourOfMostLate_L23 _ _ n _ _
        rw [f_X2_hourOfMostLate_L23, z2 34 (by decide), hN, if_neg (nI_ge hj (by omega)), isLate_X mk (by omega), hl, hlt, bd_d]
        simp only [lt_d, nI_s, if_true, z10, if_false, ixb_nI (show j < 60 by omega) (by decide), ck_d, rd, wr, hcj, z2 35 (by decide), hdiv, ixb_nI h24 (by decide), hcm]
      · rw [cnt_s]
        by_cases e : h = m / 60
        · subst e
          rw [show inH (lateC σ mk) (σ 35) (m / 60) j = true by unfold inH; rw [hlt, hdiv]; simp]
          rw [va_up_self, upd_s, z1 _ hh]
          exact nI_s _
        · rw [show inH (lateC σ mk) (σ 35) h j = false by
            unfold inH
            rw [hlt, hdiv]
            have : ¬ nI (m / 60) = nI h := fun z => e ((nI_eq (by omega) (by omega)).mp z).symm
            simp [this]]
          rw [va_up_self, upd_n _ _ e]
          exact z1 h hh
      · rw [va_up_ne _ _ hk]; exact z2 k hk
  obtain ⟨e2, b1, b2⟩ := h2
  refine ⟨σ2, ?_, b2⟩
  refine Eq.trans e1 (Eq.trans (congrFun hK2 σ1) (Eq.trans e2 ?_))
  rw [hK3]
  refine loop_v (fun n j (a : Int32 × Int32) => f_X2_hourOfMostLate_L77 (fun (y_25 : Int32) (σ_26 : St) => some (y_25, σ_26)) n a.1 a.2 (nI j) σ2) (fun a => some (a.1, σ2)) 24 (wst (fun h => cnt (inH (lateC σ mk) (σ 35) h) N)) ?_ ?_ FU 0 (Nat.zero_le _) (by unfold FU; omega)
  · intro n
    show f_X2_hourOfMostLate_L77 _ (n + 1) _ _ _ σ2 = _
    rw [f_X2_hourOfMostLate_L77, if_pos (show (24 : Int32) ≤ nI 24 from nI_le (a := 24) (Nat.le_refl _) (by omega))]
  · intro n j hj
    show f_X2_hourOfMostLate_L77 _ (n + 1) _ _ _ σ2 = f_X2_hourOfMostLate_L77 _ n _ _ _ σ2
    have hcj : (nI j).toNatClampNeg = j := nI_clamp (by omega)
    rw [f_X2_hourOfMostLate_L77, if_neg (show ¬ (24 : Int32) ≤ nI j from nI_ge (b := 24) hj (by omega)), wst_s]
    simp only [ixb_nI hj (by decide), ck_d, rd, hcj, lt_d, nI_s, b1 j hj]
    by_cases e : nI (cnt (inH (lateC σ mk) (σ 35) j) N) ≤ (wst (fun h => cnt (inH (lateC σ mk) (σ 35) h) N) j).2
    · rw [if_pos e, if_pos e]
    · rw [if_neg e, if_neg e]
theorem hour_M {τ : St} {N : Nat} (b1 b2 : Int32) (h : Nat) (K : Int32 → St → Option (Int32 × St)) (hN : τ 39 12 = nI N) (h60 : N ≤ 60) : f_X5_worst_L23 b1 b2 (nI h) K FU (0 : Int32) (0 : Int32) τ = K (nI (cnt (inH (lateM τ) (τ 46) h) N)) τ := by
  refine loop_v (fun n j a => f_X5_worst_L23 b1 b2 (nI h) K n a (nI j) τ) (fun a => K a τ) N (fun j => nI (cnt (inH (lateM τ) (τ 46) h) j)) ?_ ?_ FU 0 (Nat.zero_le _) (by unfold FU; omega)
  · intro n
    show f_X5_worst_L23 _ _ _ _ (n + 1) _ _ τ = _
    rw [f_X5_worst_L23, hN, if_pos (nI_le (Nat.le_refl _) (by omega))]
  · intro n j hj
    show f_X5_worst_L23 _ _ _ _ (n + 1) _ _ τ = f_X5_worst_L23 _ _ _ _ n _ _ τ
    have hc : (nI j).toNatClampNeg = j := nI_clamp (by omega)
    rw [f_X5_worst_L23, hN, if_neg (nI_ge hj (by omega)), isLate_M (by omega), bd_d, cnt_s]
    cases hl : lateM τ j with
    | false =>
      have e : inH (lateM τ) (τ 46) h j = false := by unfold inH; rw [hl]; rfl
      simp only [e, lt_d, nI_s, i0]
      rfl
    | true =>
      simp only [if_true, z10, if_false, ixb_nI (show j < 60 by omega) (by decide), ck_d, rd, hc, lt_d, nI_s, i0]
      by_cases e : τ 46 j / (60 : Int32) = nI h
      · have e2 : inH (lateM τ) (τ 46) h j = true := by unfold inH; rw [hl, decide_eq_true e]; rfl
        rw [if_pos e, e2]; rfl
      · have e2 : inH (lateM τ) (τ 46) h j = false := by unfold inH; rw [hl, decide_eq_false e]; rfl
        rw [if_neg e, e2]; rfl
theorem hours_M {τ : St} {N : Nat} (hN : τ 39 12 = nI N) (h60 : N ≤ 60) : f_X5_worst_L11 (fun (y_21 : Int32) (σ_22 : St) => some (y_21, σ_22)) FU (-1 : Int32) (0 : Int32) (0 : Int32) τ = some ((wst (fun h => cnt (inH (lateM τ) (τ 46) h) N) 24).1, τ) := by
  refine loop_v (fun n j (a : Int32 × Int32) => f_X5_worst_L11 (fun (y_21 : Int32) (σ_22 : St) => some (y_21, σ_22)) n a.1 a.2 (nI j) τ) (fun a => some (a.1, τ)) 24 (wst (fun h => cnt (inH (lateM τ) (τ 46) h) N)) ?_ ?_ FU 0 (Nat.zero_le _) (by unfold FU; omega)
  · intro n
    show f_X5_worst_L11 _ (n + 1) _ _ _ τ = _
    rw [f_X5_worst_L11, if_pos (show (24 : Int32) ≤ nI 24 from nI_le (a := 24) (Nat.le_refl _) (by omega))]
  · intro n j hj
    show f_X5_worst_L11 _ (n + 1) _ _ _ τ = f_X5_worst_L11 _ n _ _ _ τ
    rw [f_X5_worst_L11, if_neg (show ¬ (24 : Int32) ≤ nI j from nI_ge (b := 24) hj (by omega)), hour_M _ _ j _ hN h60, wst_s]
    simp only [lt_d, nI_s]
    by_cases e : nI (cnt (inH (lateM τ) (τ 46) j) N) ≤ (wst (fun h => cnt (inH (lateM τ) (τ 46) h) N) j).2
    · rw [if_pos e, if_pos e]
    · rw [if_neg e, if_neg e]
theorem op_worst : OpV f_X4_worst f_X5_worst := by
  intro σ τ T
  obtain ⟨S, A, U, sx, sy, ax, ay, w, p, mk, st, N, c1, c2, r⟩ := T
  have hN := r.1.1
  have x4 := c1.2.1.2.2.2.2.1
  have y4 : (wf τ 39 0 0) 39 2 = nI mk := by rw [wf0n _ _ (by decide)]; exact c2.1.2.2.2.2
  obtain ⟨σ', e1, a1⟩ := hours_X (nI mk) r.1.2.1 hN (fun i hi => by obtain ⟨-, m, h1, h2, -⟩ := r.2.1 i hi; exact ⟨m, h1, h2⟩)
  have e2 := hours_M (τ := wf τ 39 0 0) (by rw [wf0n _ _ (by decide)]; exact r.1.2.2) hN
  have r0 := r.thr 0
  refine ⟨(wst (fun h => cnt (inH (lateC σ (nI mk)) (σ 35) h) N) 24).1, σ', wf τ 39 0 0, ?_, ?_, ⟨S, A, U, sx, sy, ax, ay, w, p, mk, st, N, c1.keep (fun k hk => a1 k (by omega)), c2.thr 0, r0.keep (fun k hk => a1 k (by omega)) (fun _ _ _ => rfl) rfl rfl⟩, fun k hk => a1 k (by omega), fun k hk => wf0k τ 0 (by omega)⟩
  · unfold f_X4_worst
    rw [x4, e1, bd_d]
  · unfold f_X5_worst
    have hw : wst (fun h => cnt (inH (lateM (wf τ 39 0 0)) (wf τ 39 0 0 46) h) N) 24 = wst (fun h => cnt (inH (lateC σ (nI mk)) (σ 35) h) N) 24 := wst_congr 24 (fun h hh => cnt_congr N (fun i hi => by
      unfold inH
      rw [late_eq r0 y4 i hi, (r0.2.1 i hi).1.1]))
    rw [lt_d, e2, hw]
/-! Euclid's way, both sides -/
theorem half_mod {a b r : Nat} (hr : r = a % b) (h0 : 0 < r) (hb : 0 < b) : 2 * (b % r) < b := by
  have h1 : r < b := by rw [hr]; exact Nat.mod_lt _ hb
  have h2 := Nat.mod_lt b h0
  have h3 := Nat.div_add_mod b r
  have h4 : 1 ≤ b / r := Nat.div_pos (by omega) h0
  have h5 : r * 1 ≤ r * (b / r) := Nat.mul_le_mul_left r h4
  omega
theorem gcd_step (a b : Nat) : Nat.gcd b (a % b) = Nat.gcd a b := by
  rw [Nat.gcd_comm b, ← Nat.gcd_rec, Nat.gcd_comm]
theorem nzb_nI {n : Nat} (h0 : 0 < n) (h : n < 2147483648) : nzb (nI n) = true := decide_eq_true (nI_ne0 h0 h)
theorem euc_X {K : Int32 → St → Option (Int32 × St)} {σ : St} : ∀ (k a b s n : Nat), b < 2 ^ k → a < 2147483648 → b < 2147483648 → s + 2 * k ≤ 99 → 2 * k < n → f_X4_commonDivisor_L7 K n (nI a) (nI b) (nI s) σ = K (nI (Nat.gcd a b)) σ := by
  have base : ∀ (a s n : Nat), s ≤ 99 → 0 < n → f_X4_commonDivisor_L7 K n (nI a) (nI 0) (nI s) σ = K (nI a) σ := by
    intro a s n hs hn
    obtain ⟨n', rfl⟩ : ∃ n', n = n' + 1 := ⟨n - 1, by omega⟩
    rw [f_X4_commonDivisor_L7, if_neg (show ¬ (100 : Int32) ≤ nI s from nI_ge (b := 100) (by omega) (by omega)), if_pos (show nI 0 = (0 : Int32) from rfl)]
  have step : ∀ (a b s n : Nat), 0 < b → a < 2147483648 → b < 2147483648 → s ≤ 99 → f_X4_commonDivisor_L7 K (n + 1) (nI a) (nI b) (nI s) σ = f_X4_commonDivisor_L7 K n (nI b) (nI (a % b)) (nI (s + 1)) σ := by
    intro a b s n h0 ha hb hs
    rw [f_X4_commonDivisor_L7, if_neg (show ¬ (100 : Int32) ≤ nI s from nI_ge (b := 100) (by omega) (by omega)), if_neg (nI_ne0 h0 hb), nzb_nI h0 hb, ck_d, lt_d, lt_d, irmN ha h0 hb, nI_s]
  intro k
  induction k with
  | zero =>
    intro a b s n hb _ _ hs hn
    have : b = 0 := by have : (2 : Nat) ^ 0 = 1 := rfl; omega
    subst this
    rw [base a s n (by omega) (by omega), Nat.gcd_zero_right]
  | succ k ih =>
    intro a b s n hb ha hb2 hs hn
    by_cases z : b = 0
    · subst z
      rw [base a s n (by omega) (by omega), Nat.gcd_zero_right]
    · obtain ⟨n', rfl⟩ : ∃ n', n = n' + 1 + 1 := ⟨n - 2, by omega⟩
      have hr : a % b < b := Nat.mod_lt _ (by omega)
      rw [step a b s (n' + 1) (by omega) ha hb2 (by omega), ← gcd_step a b]
      by_cases zr : a % b = 0
      · rw [zr, base b (s + 1) (n' + 1) (by omega) (by omega), Nat.gcd_zero_right]
      · have hh := half_mod (a := a) (b := b) rfl (by omega) (by omega)
        have hp : (2 : Nat) ^ (k + 1) = 2 ^ k * 2 := Nat.pow_succ 2 k
        rw [step b (a % b) (s + 1) n' (by omega) hb2 (by omega) (by omega), ← gcd_step b (a % b)]
        exact ih (a % b) (b % (a % b)) (s + 1 + 1) n' (by omega) (by omega) (by omega) (by omega) (by omega)
theorem gcd_X {a b : Nat} (ha : a < 2147483648) (h0 : 0 < b) (hb : b < 2147483648) (σ : St) : f_X4_commonDivisor (nI a) (nI b) σ = some (nI (Nat.gcd a b), σ) := by
  unfold f_X4_commonDivisor
  have := euc_X (K := fun (y_6 : Int32) (σ_7 : St) => lt (if y_6 < (1 : Int32) then (1 : Int32) else y_6) (fun x_8 => some (x_8, σ_7))) (σ := σ) 31 a b 0 FU (by omega) ha hb (by omega) (by unfold FU; omega)
  refine Eq.trans this ?_
  have hg : 0 < Nat.gcd a b := Nat.gcd_pos_of_pos_right a h0
  have hg2 : Nat.gcd a b ≤ b := Nat.gcd_le_right a h0
  rw [lt_d, if_neg (show ¬ nI (Nat.gcd a b) < (1 : Int32) from nI_nlt (b := 1) (by omega) (by omega))]
theorem lN_ne0 {n : Nat} (h0 : 0 < n) (h : n < 9223372036854775808) : ¬ lN n = (0 : Int64) := fun z => by
  have : lN n = lN 0 := z
  have := (pk_lEQ h (by omega)).mp this
  omega
theorem euc_M {K : Int64 → St → Option (Int64 × St)} {σ : St} : ∀ (k a b n : Nat), b < 2 ^ k → a < 2147483648 → b < 2147483648 → 2 * k < n → f_X5_common_L6 K n (lN a) (lN b) σ = K (lN (Nat.gcd a b)) σ := by
  have base : ∀ (a n : Nat), 0 < n → f_X5_common_L6 K n (lN a) (lN 0) σ = K (lN a) σ := by
    intro a n hn
    obtain ⟨n', rfl⟩ : ∃ n', n = n' + 1 := ⟨n - 1, by omega⟩
    rw [f_X5_common_L6, if_pos ((lg_cmp_le (lN 0) 0).mpr (show lN 0 ≤ lN 0 from (pk_lLE (by omega) (by omega)).mpr (Nat.le_refl 0)))]
  have step : ∀ (a b n : Nat), 0 < b → a < 2147483648 → b < 2147483648 → f_X5_common_L6 K (n + 1) (lN a) (lN b) σ = f_X5_common_L6 K n (lN b) (lN (a % b)) σ := by
    intro a b n h0 ha hb
    rw [f_X5_common_L6, if_neg (fun z => by
      have z2 : lN b ≤ lN 0 := (lg_cmp_le (lN b) 0).mp z
      rw [pk_lLE (by omega) (by omega)] at z2
      omega), show nzl (lN b) = true from decide_eq_true (lN_ne0 h0 (by omega)), ck_d, lt_d]
    show f_X5_common_L6 K n (lN b) (lN a - lN a / lN b * lN b) σ = _
    rw [pk_lRem (by omega) h0 (by omega)]
  intro k
  induction k with
  | zero =>
    intro a b n hb _ _ hn
    have : b = 0 := by have : (2 : Nat) ^ 0 = 1 := rfl; omega
    subst this
    rw [base a n (by omega), Nat.gcd_zero_right]
  | succ k ih =>
    intro a b n hb ha hb2 hn
    by_cases z : b = 0
    · subst z
      rw [base a n (by omega), Nat.gcd_zero_right]
    · obtain ⟨n', rfl⟩ : ∃ n', n = n' + 1 + 1 := ⟨n - 2, by omega⟩
      have hr : a % b < b := Nat.mod_lt _ (by omega)
      rw [step a b (n' + 1) (by omega) ha hb2, ← gcd_step a b]
      by_cases zr : a % b = 0
      · rw [zr, base b (n' + 1) (by omega), Nat.gcd_zero_right]
      · have hh := half_mod (a := a) (b := b) rfl (by omega) (by omega)
        have hp : (2 : Nat) ^ (k + 1) = 2 ^ k * 2 := Nat.pow_succ 2 k
        rw [step b (a % b) n' (by omega) hb2 (by omega), ← gcd_step b (a % b)]
        exact ih (a % b) (b % (a % b)) n' (by omega) (by omega) (by omega) (by omega)
theorem gcd_M {a b : Nat} (ha : a < 2147483648) (hb : b < 2147483648) (σ : St) : f_X5_common (lN a) (lN b) σ = some (lN (Nat.gcd a b), σ) := by
  unfold f_X5_common
  exact euc_M (K := fun (y_4 : Int64) (σ_5 : St) => some (y_4, σ_5)) (σ := σ) 31 a b FU (by omega) ha hb (by unfold FU; omega)
theorem low_X {a b : Nat} (ha : a < 2147483648) (h0 : 0 < b) (hb : b < 2147483648) (σ : St) : f_X4_lowestTerm (nI a) (nI b) 1 σ = some (nI (a / Nat.gcd a b), σ) ∧ f_X4_lowestTerm (nI a) (nI b) 0 σ = some (nI (b / Nat.gcd a b), σ) := by
  have hg : 0 < Nat.gcd a b := Nat.gcd_pos_of_pos_right a h0
  have hg2 : Nat.gcd a b ≤ b := Nat.gcd_le_right a h0
  unfold f_X4_lowestTerm
  rw [gcd_X ha h0 hb]
  simp only [bd_d, z10, if_true, if_false, nzb_nI hg (by omega), ck_d, pk_div ha hg (show Nat.gcd a b < 2 ^ 31 by omega), pk_div hb hg (show Nat.gcd a b < 2 ^ 31 by omega)]
  exact ⟨trivial, trivial⟩
theorem op_share (a : Int32) : Op ["java/lang/IllegalArgumentException", "java/lang/ArithmeticException"] (f_X4_share a) (f_X5_share a) := by
  intro σ τ T
  have T0 := T
  obtain ⟨S, A, U, sx, sy, ax, ay, w, p, mk, st, N, c1, c2, r⟩ := T
  have hN := r.1.1
  have x1 := r.1.2.1
  have y1 := r.1.2.2
  have x4 := c1.2.1.2.2.2.2.1
  have y0 : (wf τ 39 0 0) 39 12 = nI N := by rw [wf0n _ _ (by decide)]; exact y1
  have y4 : (wf τ 39 0 0) 39 2 = nI mk := by rw [wf0n _ _ (by decide)]; exact c2.1.2.2.2.2
  unfold f_X4_share f_X5_share
  rcases within_b a 0 1 (l := 0) (h := 1) rfl rfl (by omega) (by omega) σ τ with ⟨e1, e2, k, -, hk, rfl⟩ | ⟨e1, e2, -⟩
  · by_cases hz : N = 0
    · subst hz
      have q : nI 0 = (0 : Int32) := rfl
      simp only [x1, y1, q, lt_d, e1, e2, bd_d, z10, if_true, if_false, kn_1, bx_l, thr_2]
      exact T0.refused (i := 1) rfl rfl _
    · have q : ¬ nI N = (0 : Int32) := nI_ne0 (by omega) (by omega)
      have hl := cnt_le (lateC σ (nI mk)) N
      have el : f_X5_late (wf τ 39 0 0) = some (nI (cnt (lateC σ (nI mk)) N), wf τ 39 0 0) := by
        rw [late_M y0 hN, cnt_congr N (late_eq (r.thr 0) y4)]
      have ec := countLate_X (nI mk) x1 hN
      obtain ⟨L, hL⟩ : ∃ L, L = cnt (lateC σ (nI mk)) N := ⟨_, rfl⟩
      rw [← hL] at el ec hl
      have hg : 0 < Nat.gcd (N - L) N := Nat.gcd_pos_of_pos_right _ (by omega)
      have hg2 : Nat.gcd (N - L) N ≤ N := Nat.gcd_le_right _ (by omega)
      have eX := low_X (a := N - L) (b := N) (by omega) (by omega) (by omega) σ
      have eM := gcd_M (a := N - L) (b := N) (by omega) (by omega) (wf τ 39 0 0)
      have hs : nI N - nI L = nI (N - L) := pk_sub hl
      have d1 : nI (N - L) / nI (Nat.gcd (N - L) N) = nI ((N - L) / Nat.gcd (N - L) N) := pk_div (by omega) hg (by omega)
      have d2 : nI N / nI (Nat.gcd (N - L) N) = nI (N / Nat.gcd (N - L) N) := pk_div (by omega) hg (by omega)
      have hk2 : k = 0 ∨ k = 1 := by omega
      rcases hk2 with rfl | rfl
      · have q0 : nI 0 = (0 : Int32) := rfl
        rw [q0] at e1 e2
        simp only [x1, y1, q0, lt_d, e1, e2, bd_d, z10, if_true, if_false, kn_1, bx_l, thr_0, q, x4, ec, el, y0, hs, eX.1, nI_l (show N - L < 2 ^ 31 by omega), nI_l (show N < 2 ^ 31 by omega), eM, lN_i, nzb_nI hg (by omega), ck_d, d1]
        exact oc_val T0 rfl
      · have q1 : nI 1 = (1 : Int32) := rfl
        rw [q1] at e1 e2
        simp only [x1, y1, q1, lt_d, e1, e2, bd_d, z10, if_true, if_false, kn_1, bx_l, thr_0, q, x4, ec, el, y0, hs, eX.2, nI_l (show N - L < 2 ^ 31 by omega), nI_l (show N < 2 ^ 31 by omega), eM, lN_i, nzb_nI hg (by omega), ck_d, d2]
        exact oc_val T0 rfl
  · simp only [lt_d, e1, e2, bd_d, z10, if_true, if_false, kn_0, bx_r, thr_1, ite_self]
    exact T0.refused (i := 0) rfl rfl _
