/-! runs in a row: unlucky, compare -/
theorem forget_X (σ : St) : ∃ σ', f_X2_forget σ = some (0, σ') ∧ (∀ u, u < 12 → σ' 17 u = 0) ∧ σ' 34 4 = 0 ∧ σ' 13 10 = 0 ∧ ∀ k, k < 13 ∨ 38 < k → σ' k = σ k := by
  unfold f_X2_forget
  rw [lt_d, lt_d]
  obtain ⟨σ0, h0⟩ : ∃ z, z = wf (wf σ 34 4 0) 13 10 0 := ⟨_, rfl⟩
  rw [← h0]
  refine Exists.elim (loop_st (fun n j z => f_X2_forget_L15 (fun (σ_7 : St) => some ((0 : Int32), σ_7)) n (nI j) z) (fun (σ_7 : St) => some ((0 : Int32), σ_7)) 12 (fun j z => (∀ u, u < j → z 17 u = 0) ∧ ∀ k, k ≠ 17 → z k = σ0 k) ?_ ?_ FU 0 σ0 (Nat.zero_le _) (by unfold FU; omega) ⟨fun u hu => absurd hu (Nat.not_lt_zero u), fun _ _ => rfl⟩) (fun σ1 h1 => ⟨σ1, h1.1, h1.2.1, ?_, ?_, fun k hk => ?_⟩)
  · intro n z _
    show f_X2_forget_L15 _ (n + 1) _ z = _
    rw [f_X2_forget_L15, if_pos (show (12 : Int32) ≤ nI 12 from nI_le (a := 12) (Nat.le_refl _) (by omega))]
  · intro n j z hj ⟨z1, z2⟩
    have hcj : (nI j).toNatClampNeg = j := nI_clamp (by omega)
    refine ⟨va_up z 17 (upd (z 17) j 0), ?_, ?_, ?_⟩
    · show f_X2_forget_L15 _ (n + 1) _ z = f_X2_forget_L15 _ n _ _
      rw [f_X2_forget_L15, if_neg (show ¬ (12 : Int32) ≤ nI j from nI_ge (b := 12) hj (by omega))]
      simp only [ixb_nI hj (by decide), ck_d, wr, hcj, lt_d, nI_s]
    · intro i hi
      by_cases e : i = j
      · subst e; simp [va_up, upd]
      · have := z1 i (by omega)
        simpa [va_up, upd, e] using this
    · intro k k1
      rw [va_up_ne _ _ k1]; exact z2 k k1
  · rw [h1.2.2 34 (by decide), h0]; simp [wf, va_up, upd]
  · rw [h1.2.2 13 (by decide), h0]; simp [wf, va_up, upd]
  · rw [h1.2.2 k (by omega), h0]; simp [wf, va_up, show ¬ k = 13 by omega, show ¬ k = 34 by omega]
theorem forget_M (τ : St) : ∃ τ', f_X5_forget τ = some (0, τ') ∧ (∀ u, u < 12 → τ' 54 u = 0) ∧ τ' 39 12 = 0 ∧ τ' 39 23 = 0 ∧ (∀ j, j ≠ 12 → j ≠ 23 → τ' 39 j = τ 39 j) ∧ ∀ k, k ≠ 39 → k ≠ 54 → τ' k = τ k := by
  unfold f_X5_forget
  rw [lt_d, lt_d]
  obtain ⟨σ0, h0⟩ : ∃ z, z = wf (wf τ 39 12 0) 39 23 0 := ⟨_, rfl⟩
  rw [← h0]
  refine Exists.elim (loop_st (fun n j z => f_X5_forget_L12 (fun (σ_7 : St) => some ((0 : Int32), σ_7)) n (nI j) z) (fun (σ_7 : St) => some ((0 : Int32), σ_7)) 12 (fun j z => (∀ u, u < j → z 54 u = 0) ∧ ∀ k, k ≠ 54 → z k = σ0 k) ?_ ?_ FU 0 σ0 (Nat.zero_le _) (by unfold FU; omega) ⟨fun u hu => absurd hu (Nat.not_lt_zero u), fun _ _ => rfl⟩) (fun σ1 h1 => ⟨σ1, h1.1, h1.2.1, ?_, ?_, fun j q1 q2 => ?_, fun k q1 q2 => ?_⟩)
  · intro n z _
    show f_X5_forget_L12 _ (n + 1) _ z = _
    rw [f_X5_forget_L12, if_pos (show (12 : Int32) ≤ nI 12 from nI_le (a := 12) (Nat.le_refl _) (by omega))]
  · intro n j z hj ⟨z1, z2⟩
    have hcj : (nI j).toNatClampNeg = j := nI_clamp (by omega)
    refine ⟨va_up z 54 (upd (z 54) j 0), ?_, ?_, ?_⟩
    · show f_X5_forget_L12 _ (n + 1) _ z = f_X5_forget_L12 _ n _ _
      rw [f_X5_forget_L12, if_neg (show ¬ (12 : Int32) ≤ nI j from nI_ge (b := 12) hj (by omega))]
      simp only [ixb_nI hj (by decide), ck_d, wr, hcj, lt_d, nI_s]
    · intro i hi
      by_cases e : i = j
      · subst e; simp [va_up, upd]
      · have := z1 i (by omega)
        simpa [va_up, upd, e] using this
    · intro k k1
      rw [va_up_ne _ _ k1]; exact z2 k k1
  · rw [h1.2.2 39 (by decide), h0]; simp [wf, va_up, upd]
  · rw [h1.2.2 39 (by decide), h0]; simp [wf, va_up, upd]
  · rw [h1.2.2 39 (by decide), h0]; simp [wf, va_up, upd, q1, q2]
  · rw [h1.2.2 k q2, h0]; simp [wf, va_up, q1]
section RR
variable {S A U : Nat} {sx sy ax ay w : Nat → Nat} {p mk : Nat} {st : Nat → Nat → Option Nat}
/-- one run and its late calls, both sides -/
theorem run2 {σ τ : St} (CX : CfX σ S A U sx sy ax ay w p mk st) (CM : CfM τ S A U sx sy ax ay w p mk st) {v N : Nat} (hv : v < 4) (h60 : N ≤ 60) (hNA : N = 0 ∨ 0 < A) (sd dy : Int32) :
    ∃ σ' τ' L, f_X4_lateOn (nI v) sd dy (nI N) σ = some (nI L, σ') ∧ f_X5_play (nI v) sd dy (nI N) τ = some (0, τ') ∧ f_X5_late τ' = some (nI L, τ') ∧ L ≤ N ∧ CfX σ' S A U sx sy ax ay w p mk st ∧ CfM τ' S A U sx sy ax ay w p mk st ∧ FrA σ σ' ∧ FrB τ τ' ∧ τ' 39 0 = τ 39 0 := by
  obtain ⟨σ', τ', f1, f2, R, k1, k2, k3⟩ := run_both CX CM hv h60 hNA sd dy
  have hmk : τ' 39 2 = nI mk := by rw [k2 2 (by decide) (by decide)]; exact CM.1.2.2.2.2
  refine ⟨σ', τ', _, f1, f2, ?_, cnt_le _ _, CX.keep (fun k hk => k1 k (by omega)), CM.keep (fun k h1 h2 => k3 k (by omega) (by omega)) (fun j _ h1 h2 => k2 j h1 h2), fun k hk => k1 k (by omega), fun k hk => k3 k (by omega) (by omega), k2 0 (by decide) (by decide)⟩
  rw [late_M R.1.2.2 h60, cnt_congr N (late_eq R hmk)]
theorem FrA.tr {a b c : St} (h : FrA a b) (g : FrA b c) : FrA a c := fun k hk => (g k hk).trans (h k hk)
theorem FrB.tr {a b c : St} (h : FrB a b) (g : FrB b c) : FrB a c := fun k hk => (g k hk).trans (h k hk)
theorem FrA.rf (a : St) : FrA a a := fun _ _ => rfl
theorem FrB.rf (a : St) : FrB a a := fun _ _ => rfl
/-- both forget -/
theorem forget2 {σ τ : St} (CX : CfX σ S A U sx sy ax ay w p mk st) (CM : CfM τ S A U sx sy ax ay w p mk st) :
    ∃ σ' τ', f_X2_forget σ = some (0, σ') ∧ f_X5_forget τ = some (0, τ') ∧ Two σ' τ' ∧ FrA σ σ' ∧ FrB τ τ' ∧ τ' 39 0 = τ 39 0 := by
  obtain ⟨σ', e1, a1, a2, a3, a4⟩ := forget_X σ
  obtain ⟨τ', e2, b1, b2, b3, b4, b5⟩ := forget_M τ
  refine ⟨σ', τ', e1, e2, ⟨S, A, U, sx, sy, ax, ay, w, p, mk, st, 0, CX.keep (fun k hk => a4 k (by omega)), CM.keep (fun k h1 h2 => b5 k (by omega) (by omega)) (fun j _ h1 h2 => b4 j h1 h2), ⟨by omega, a2, b2⟩, fun i hi => absurd hi (Nat.not_lt_zero i), fun u hu => by rw [a1 u hu, b1 u hu], by rw [a3, b3]⟩, fun k hk => a4 k (by omega), fun k hk => b5 k (by omega) (by omega), b4 0 (by decide) (by decide)⟩
theorem unl {v N n : Nat} (hv : v < 4) (h60 : N ≤ 60) (hNA : N = 0 ∨ 0 < A) (sd dy : Int32) (hn : n ≤ 8) (K : Int32 → St → Option (Ex × St)) (K' : Int32 → St → Option (Int32 × St)) :
    ∀ (d j f : Nat) (σ τ : St) (most found : Int32), j + d = n → d < f → CfX σ S A U sx sy ax ay w p mk st → CfM τ S A U sx sy ax ay w p mk st →
    ∃ found' σ' τ', f_X4_unlucky_L80 (nI v) sd (nI n) dy (nI N) K f most found (nI j) σ = K found' σ' ∧ f_X5_unlucky_L87 (nI v) sd (nI n) dy (nI N) K' f found most (nI j) τ = K' found' τ' ∧ CfX σ' S A U sx sy ax ay w p mk st ∧ CfM τ' S A U sx sy ax ay w p mk st ∧ FrA σ σ' ∧ FrB τ τ' ∧ τ' 39 0 = τ 39 0 := by
  intro d
  induction d with
  | zero =>
    intro j f σ τ most found hj hf CX CM
    obtain ⟨f', rfl⟩ : ∃ f', f = f' + 1 := ⟨f - 1, by omega⟩
    refine ⟨found, σ, τ, ?_, ?_, CX, CM, FrA.rf σ, FrB.rf τ, rfl⟩
    · rw [f_X4_unlucky_L80, if_pos (nI_le (by omega) (by omega))]
    · rw [f_X5_unlucky_L87, if_pos (nI_le (by omega) (by omega))]
  | succ d ih =>
    intro j f σ τ most found hj hf CX CM
    obtain ⟨f', rfl⟩ : ∃ f', f = f' + 1 := ⟨f - 1, by omega⟩
    obtain ⟨σ1, τ1, L, e1, e2, e3, hL, CX1, CM1, fa, fb, h0⟩ := run2 CX CM hv h60 hNA (sd + nI j) dy
    have x1 : f_X4_unlucky_L80 (nI v) sd (nI n) dy (nI N) K (f' + 1) most found (nI j) σ = if nI L ≤ most then f_X4_unlucky_L80 (nI v) sd (nI n) dy (nI N) K f' most found (nI (j + 1)) σ1 else f_X4_unlucky_L80 (nI v) sd (nI n) dy (nI N) K f' (nI L) (sd + nI j) (nI (j + 1)) σ1 := by
      rw [f_X4_unlucky_L80, if_neg (nI_ge (by omega) (by omega))]
      simp only [e1, bd_d, lt_d, nI_s]
    have x2 : f_X5_unlucky_L87 (nI v) sd (nI n) dy (nI N) K' (f' + 1) found most (nI j) τ = if nI L ≤ most then f_X5_unlucky_L87 (nI v) sd (nI n) dy (nI N) K' f' found most (nI (j + 1)) τ1 else f_X5_unlucky_L87 (nI v) sd (nI n) dy (nI N) K' f' (sd + nI j) (nI L) (nI (j + 1)) τ1 := by
      rw [f_X5_unlucky_L87, if_neg (nI_ge (by omega) (by omega))]
      simp only [e2, e3, bd_d, lt_d, nI_s]
    by_cases hm : nI L ≤ most
    · rw [if_pos hm] at x1 x2
      obtain ⟨fo, s2, t2, y1, y2, CX2, CM2, fa2, fb2, h2⟩ := ih (j + 1) f' σ1 τ1 most found (by omega) (by omega) CX1 CM1
      exact ⟨fo, s2, t2, x1.trans y1, x2.trans y2, CX2, CM2, fa.tr fa2, fb.tr fb2, h2.trans h0⟩
    · rw [if_neg hm] at x1 x2
      obtain ⟨fo, s2, t2, y1, y2, CX2, CM2, fa2, fb2, h2⟩ := ih (j + 1) f' σ1 τ1 (nI L) (sd + nI j) (by omega) (by omega) CX1 CM1
      exact ⟨fo, s2, t2, x1.trans y1, x2.trans y2, CX2, CM2, fa.tr fa2, fb.tr fb2, h2.trans h0⟩
theorem cmp {v v2 n : Nat} (hv : v < 4) (hv2 : v2 < 4) (hA : 0 < A) (sd dy wh : Int32) (hn : n ≤ 20) (K : Int32 → Int32 → St → Option (Ex × St)) (K' : Int32 → Int32 → St → Option (Int32 × St)) :
    ∀ (d j f : Nat) (σ τ : St) (a b : Nat), j + d = n → d < f → a + b ≤ j → CfX σ S A U sx sy ax ay w p mk st → CfM τ S A U sx sy ax ay w p mk st →
    ∃ a' b' σ' τ', f_X4_compare_L95 (nI v) (nI v2) sd dy (nI n) wh K f (nI a) (nI b) (nI j) σ = K (nI a') (nI b') σ' ∧ f_X5_compare_L106 (nI v) (nI v2) sd dy (nI n) wh K' f (nI a) (nI b) (nI j) τ = K' (nI a') (nI b') τ' ∧ a' + b' ≤ n ∧ CfX σ' S A U sx sy ax ay w p mk st ∧ CfM τ' S A U sx sy ax ay w p mk st ∧ FrA σ σ' ∧ FrB τ τ' ∧ τ' 39 0 = τ 39 0 := by
  intro d
  induction d with
  | zero =>
    intro j f σ τ a b hj hf hab CX CM
    obtain ⟨f', rfl⟩ : ∃ f', f = f' + 1 := ⟨f - 1, by omega⟩
    refine ⟨a, b, σ, τ, ?_, ?_, by omega, CX, CM, FrA.rf σ, FrB.rf τ, rfl⟩
    · rw [f_X4_compare_L95, if_pos (nI_le (by omega) (by omega))]
    · rw [f_X5_compare_L106, if_pos (nI_le (by omega) (by omega))]
  | succ d ih =>
    intro j f σ τ a b hj hf hab CX CM
    obtain ⟨f', rfl⟩ : ∃ f', f = f' + 1 := ⟨f - 1, by omega⟩
    obtain ⟨σ1, τ1, L, e1, e2, e3, hL, CX1, CM1, fa, fb, h0⟩ := run2 (N := 12) CX CM hv (by omega) (Or.inr hA) sd (dy + nI j)
    obtain ⟨σ2, τ2, M, e4, e5, e6, hM, CX2, CM2, fa1, fb1, h1⟩ := run2 (N := 12) CX1 CM1 hv2 (by omega) (Or.inr hA) sd (dy + nI j)
    have q12 : nI 12 = (12 : Int32) := rfl
    rw [q12] at e1 e2 e4 e5
    have x1 : f_X4_compare_L95 (nI v) (nI v2) sd dy (nI n) wh K (f' + 1) (nI a) (nI b) (nI j) σ = if nI M ≤ nI L then (if nI L ≤ nI M then f_X4_compare_L95 (nI v) (nI v2) sd dy (nI n) wh K f' (nI a) (nI b) (nI (j + 1)) σ2 else f_X4_compare_L95 (nI v) (nI v2) sd dy (nI n) wh K f' (nI a) (nI (b + 1)) (nI (j + 1)) σ2) else f_X4_compare_L95 (nI v) (nI v2) sd dy (nI n) wh K f' (nI (a + 1)) (nI b) (nI (j + 1)) σ2 := by
      rw [f_X4_compare_L95, if_neg (nI_ge (by omega) (by omega))]
      simp only [e1, e4, bd_d, lt_d, nI_s]
    have x2 : f_X5_compare_L106 (nI v) (nI v2) sd dy (nI n) wh K' (f' + 1) (nI a) (nI b) (nI j) τ = if nI M ≤ nI L then (if nI L ≤ nI M then f_X5_compare_L106 (nI v) (nI v2) sd dy (nI n) wh K' f' (nI a) (nI b) (nI (j + 1)) τ2 else f_X5_compare_L106 (nI v) (nI v2) sd dy (nI n) wh K' f' (nI a) (nI (b + 1)) (nI (j + 1)) τ2) else (if nI L ≤ nI M then f_X5_compare_L106 (nI v) (nI v2) sd dy (nI n) wh K' f' (nI (a + 1)) (nI b) (nI (j + 1)) τ2 else f_X5_compare_L106 (nI v) (nI v2) sd dy (nI n) wh K' f' (nI (a + 1)) (nI (b + 1)) (nI (j + 1)) τ2) := by
      rw [f_X5_compare_L106, if_neg (nI_ge (by omega) (by omega))]
      simp only [e2, e3, e5, e6, bd_d, lt_d, nI_s, i0]
    by_cases hm : nI M ≤ nI L
    · rw [if_pos hm] at x1 x2
      by_cases hl : nI L ≤ nI M
      · rw [if_pos hl] at x1 x2
        obtain ⟨a', b', s2, t2, y1, y2, hab', CX3, CM3, fa2, fb2, h2⟩ := ih (j + 1) f' σ2 τ2 a b (by omega) (by omega) (by omega) CX2 CM2
        exact ⟨a', b', s2, t2, x1.trans y1, x2.trans y2, hab', CX3, CM3, (fa.tr fa1).tr fa2, (fb.tr fb1).tr fb2, (h2.trans h1).trans h0⟩
      · rw [if_neg hl] at x1 x2
        obtain ⟨a', b', s2, t2, y1, y2, hab', CX3, CM3, fa2, fb2, h2⟩ := ih (j + 1) f' σ2 τ2 a (b + 1) (by omega) (by omega) (by omega) CX2 CM2
        exact ⟨a', b', s2, t2, x1.trans y1, x2.trans y2, hab', CX3, CM3, (fa.tr fa1).tr fa2, (fb.tr fb1).tr fb2, (h2.trans h1).trans h0⟩
    · have hl : nI L ≤ nI M := by
        rw [nI_leI (by omega) (by omega)] at hm ⊢
        omega
      rw [if_neg hm] at x1 x2
      rw [if_pos hl] at x2
      obtain ⟨a', b', s2, t2, y1, y2, hab', CX3, CM3, fa2, fb2, h2⟩ := ih (j + 1) f' σ2 τ2 (a + 1) b (by omega) (by omega) (by omega) CX2 CM2
      exact ⟨a', b', s2, t2, x1.trans y1, x2.trans y2, hab', CX3, CM3, (fa.tr fa1).tr fa2, (fb.tr fb1).tr fb2, (h2.trans h1).trans h0⟩
end RR
