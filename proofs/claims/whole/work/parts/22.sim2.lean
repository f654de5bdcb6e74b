theorem upd_s (f : Nat → Int32) (k : Nat) (x : Int32) : upd f k x k = x := by simp [upd]
theorem upd_n (f : Nat → Int32) {k j : Nat} (x : Int32) (h : j ≠ k) : upd f k x j = f j := by simp [upd, h]
theorem vu_s (σ : St) (k : Nat) (r : Nat → Int32) : va_up σ k r k = r := va_up_self σ k r
theorem vu_n (σ : St) {k j : Nat} (r : Nat → Int32) (h : j ≠ k) : va_up σ k r j = σ j := va_up_ne σ r h
/-- nearest free unit, either side -/
def lst (w : Nat → Int32) (d : Int32) : Option Nat → Int32
  | none => d
  | some b => w b
def nrr (w : Nat → Int32) (u b : Nat) : Bool := !decide (w b ≤ w u)
theorem nearestFree_X {σ : St} {U a : Nat} (t : Int32) (hU : σ 13 9 = nI U) (h12 : U ≤ 12) (ha : a < 10) (hw : ∀ u, u < U → freeC σ t u = true → ¬ (2147483647 : Int32) ≤ σ (20 + u) a) :
    f_X2_nearestFree t (nI a) σ = some (enc (pick (freeC σ t) (nrr (fun u => σ (20 + u) a)) U), σ) := by
  unfold f_X2_nearestFree
  refine loop_v (fun n j (q : Int32 × Int32) => f_X2_nearestFree_L9 t (nI a) (fun y s => some (y, s)) n q.1 q.2 (nI j) σ) (fun q => some (q.1, σ)) U (fun j => (enc (pick (freeC σ t) (nrr (fun u => σ (20 + u) a)) j), lst (fun u => σ (20 + u) a) 2147483647 (pick (freeC σ t) (nrr (fun u => σ (20 + u) a)) j))) ?_ ?_ FU 0 (Nat.zero_le _) (by unfold FU; omega)
  · intro n
    show f_X2_nearestFree_L9 _ _ _ (n + 1) _ _ _ σ = _
    rw [f_X2_nearestFree_L9, hU, if_pos (nI_le (Nat.le_refl _) (by omega))]
  · intro n j hj
    show f_X2_nearestFree_L9 _ _ _ (n + 1) _ _ _ σ = f_X2_nearestFree_L9 _ _ _ n _ _ _ σ
    have hc : (nI j).toNatClampNeg = j := nI_clamp (by omega)
    have hca : (nI a).toNatClampNeg = a := nI_clamp (by omega)
    rw [f_X2_nearestFree_L9, hU, if_neg (nI_ge hj (by omega)), isFree_X t (by omega), bd_d]
    simp only [ixb_nI (show j < 12 by omega) (by decide), ixb_nI ha (by decide), ck_d, rd, hc, hca, lt_d, nI_s, pick_s]
    by_cases hf : freeC σ t j = true
    · simp only [hf, if_true]
      rw [if_neg (by decide)]
      cases hp : pick (freeC σ t) (nrr (fun u => σ (20 + u) a)) j with
      | none =>
        rw [if_neg (show ¬ lst (fun u => σ (20 + u) a) 2147483647 none ≤ σ (20 + j) a from hw j hj hf)]
        rfl
      | some b =>
        simp only [lst, Bool.true_and, nrr]
        by_cases h3 : σ (20 + b) a ≤ σ (20 + j) a
        · simp [h3, enc, lst]
        · simp [h3, enc, lst]
    · simp only [hf, if_false, Bool.false_eq_true, if_true, Bool.false_and]
      cases hp : pick (freeC σ t) (nrr (fun u => σ (20 + u) a)) j with
      | none => simp [enc]
      | some b => simp [enc]
theorem cnt_pos {P : Nat → Bool} {j : Nat} (hP : P j = true) : ∀ n, j < n → ¬ cnt P n = 0
  | 0, h => absurd h (Nat.not_lt_zero j)
  | n + 1, h => by
    show ¬ cnt P n + (if P n then 1 else 0) = 0
    by_cases e : j = n
    · subst e; rw [hP]; simp
    · have := cnt_pos hP n (by omega); omega
theorem cnt_zero {P : Nat → Bool} {n : Nat} (h : cnt P n = 0) : ∀ i, i < n → P i = false := fun i hi => by
  cases e : P i with
  | false => rfl
  | true => exact absurd h (cnt_pos e n hi)
theorem loop_e {β : Type} (F : Nat → Nat → β) (r0 r1 : β) (N : Nat) (P : Nat → Bool) (hx : ∀ n, F (n + 1) N = r0) (hs : ∀ n j, j < N → F (n + 1) j = if P j then r1 else F n (j + 1)) : ∀ n j, j ≤ N → N - j < n → cnt P j = 0 → F n j = if cnt P N = 0 then r0 else r1 := by
  intro n
  induction n with
  | zero => intro j _ h; omega
  | succ n ih =>
    intro j hj hn hc
    by_cases e : j = N
    · subst e; rw [hx n, if_pos hc]
    · rw [hs n j (by omega)]
      by_cases hP : P j = true
      · rw [if_pos hP, if_neg (cnt_pos hP N (by omega))]
      · rw [if_neg hP]
        exact ih (j + 1) (by omega) (by omega) (by show cnt P j + _ = 0; rw [hc]; simp [hP])
theorem isAnyFree_X {σ : St} {U : Nat} (t : Int32) (hU : σ 13 9 = nI U) (h12 : U ≤ 12) : f_X2_isAnyFree t σ = some (if cnt (freeC σ t) U = 0 then 0 else 1, σ) := by
  unfold f_X2_isAnyFree
  refine (loop_e (fun n j => f_X2_isAnyFree_L2 t (fun s => some ((1 : Int32), s)) (fun s => some ((0 : Int32), s)) n (nI j) σ) (some (0, σ)) (some (1, σ)) U (freeC σ t) ?_ ?_ FU 0 (Nat.zero_le _) (by unfold FU; omega) rfl).trans ?_
  · intro n
    show f_X2_isAnyFree_L2 _ _ _ (n + 1) _ σ = _
    rw [f_X2_isAnyFree_L2, hU, if_pos (nI_le (Nat.le_refl _) (by omega))]
  · intro n j hj
    show f_X2_isAnyFree_L2 _ _ _ (n + 1) _ σ = _
    rw [f_X2_isAnyFree_L2, hU, if_neg (nI_ge hj (by omega)), isFree_X t (by omega), bd_d]
    by_cases hf : freeC σ t j = true
    · simp only [hf, if_true]; rw [if_neg (by decide)]
    · simp only [hf, lt_d, nI_s]; rfl
  · split <;> rfl
/-- the least number above t, of those and of a start -/
def mn (x : Nat → Int32) (t d : Int32) : Nat → Int32
  | 0 => d
  | j + 1 => if x j ≤ t then mn x t d j else if x j < mn x t d j then x j else mn x t d j
theorem nextEvent_X {σ : St} {N U : Nat} (t : Int32) (hN : σ 34 4 = nI N) (h60 : N ≤ 60) (hU : σ 13 9 = nI U) (h12 : U ≤ 12) : f_X2_nextEvent t σ = some (mn (σ 32) t (mn (σ 35) t 2147483647 N) U, σ) := by
  unfold f_X2_nextEvent
  refine (loop_v (fun n j a => f_X2_nextEvent_L5 t (fun y s => f_X2_nextEvent_L51 t (fun y2 s2 => some (y2, s2)) FU y (0 : Int32) s) n a (nI j) σ) (fun a => f_X2_nextEvent_L51 t (fun y2 s2 => some (y2, s2)) FU a (0 : Int32) σ) N (fun j => mn (σ 35) t 2147483647 j) ?_ ?_ FU 0 (Nat.zero_le _) (by unfold FU; omega)).trans ?_
  rotate_right
  · refine loop_v (fun n j a => f_X2_nextEvent_L51 t (fun y s => some (y, s)) n a (nI j) σ) (fun a => some (a, σ)) U (fun j => mn (σ 32) t (mn (σ 35) t 2147483647 N) j) ?_ ?_ FU 0 (Nat.zero_le _) (by unfold FU; omega)
    · intro n
      show f_X2_nextEvent_L51 _ _ (n + 1) _ _ σ = _
      rw [f_X2_nextEvent_L51, hU, if_pos (nI_le (Nat.le_refl _) (by omega))]
    · intro n j hj
      show f_X2_nextEvent_L51 _ _ (n + 1) _ _ σ = f_X2_nextEvent_L51 _ _ n _ _ σ
      have hc : (nI j).toNatClampNeg = j := nI_clamp (by omega)
      rw [f_X2_nextEvent_L51, hU, if_neg (nI_ge hj (by omega))]
      simp only [ixb_nI (show j < 12 by omega) (by decide), ck_d, rd, hc, lt_d, nI_s]
      by_cases h1 : σ 32 j ≤ t
      · simp only [h1, if_true, mn]
      · simp only [h1, if_false, mn]
  · intro n
    show f_X2_nextEvent_L5 _ _ (n + 1) _ _ σ = _
    rw [f_X2_nextEvent_L5, hN, if_pos (nI_le (Nat.le_refl _) (by omega))]
  · intro n j hj
    show f_X2_nextEvent_L5 _ _ (n + 1) _ _ σ = f_X2_nextEvent_L5 _ _ n _ _ σ
    have hc : (nI j).toNatClampNeg = j := nI_clamp (by omega)
    rw [f_X2_nextEvent_L5, hN, if_neg (nI_ge hj (by omega))]
    simp only [ixb_nI (show j < 60 by omega) (by decide), ck_d, rd, hc, lt_d, nI_s]
    by_cases h1 : σ 35 j ≤ t
    · simp only [h1, if_true, mn]
    · simp only [h1, if_false, mn]
theorem send_X {σ : St} {i u a w : Nat} {t : Int32} (hi : i < 60) (hu : u < 12) (ha : a < 10) (hA : σ 36 i = nI a) (hw : σ (20 + u) a = nI w) :
    ∃ σ' : St, f_X2_send (nI i) (nI u) t σ = some (0, σ') ∧ σ' 14 = upd (σ 14) i (nI u) ∧ σ' 15 = upd (σ 15) i (nI w) ∧ σ' 16 = upd (σ 16) i (t + nI w) ∧ σ' 32 = upd (σ 32) u (t + nI w + σ 38 i + nI w) ∧ σ' 17 = upd (σ 17) u (σ 17 u + (t + nI w + σ 38 i + nI w - t)) ∧ ∀ k, k ≠ 14 → k ≠ 15 → k ≠ 16 → k ≠ 32 → k ≠ 17 → σ' k = σ k := by
  unfold f_X2_send
  have h1 : (nI i).toNatClampNeg = i := nI_clamp (by omega)
  have h2 : (nI u).toNatClampNeg = u := nI_clamp (by omega)
  have h3 : (nI a).toNatClampNeg = a := nI_clamp (by omega)
  simp only [ixb_nI hi (by decide), ixb_nI hu (by decide), rd, wr, h1, h2, hA, h3, ixb_nI ha (by decide), ck_d, lt_d, hw]
  refine ⟨_, rfl, ?_, ?_, ?_, ?_, ?_, ?_⟩
  · simp [va_up]
  · simp [va_up]
  · simp [va_up]
  · simp [va_up, upd]
  · simp [va_up, upd]
  · intro k k1 k2 k3 k4 k5
    simp [va_up, k1, k2, k3, k4, k5]
