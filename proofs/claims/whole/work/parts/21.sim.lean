/-! the class's day: who waits, who is free, what comes next -/
theorem enc_some_ne {i : Nat} (h : i < 2147483648) : ¬ nI i = (-1 : Int32) := by
  intro q
  have a := nI_toInt h
  rw [q] at a
  have : (-1 : Int32).toInt = -1 := by decide
  omega
theorem nI_nneg {i : Nat} (h : i < 2147483648) : ¬ nI i < (0 : Int32) := nI_pos h
def ahd (r m : Nat → Int32) (i b : Nat) : Bool := if r i = r b then !decide (m b ≤ m i) else !decide (r i ≤ r b)
theorem goesAhead_X {σ : St} {i b : Nat} (hi : i < 60) (hb : b < 60) : f_X2_goesAhead (nI i) (nI b) σ = some (if ahd (σ 37) (σ 35) i b then 1 else 0, σ) := by
  unfold f_X2_goesAhead
  have h1 : (nI i).toNatClampNeg = i := nI_clamp (by omega)
  have h2 : (nI b).toNatClampNeg = b := nI_clamp (by omega)
  simp only [ixb_nI hi (by decide), ixb_nI hb (by decide), rd, h1, h2, ck_d, ahd]
  by_cases e1 : σ 37 i = σ 37 b
  · by_cases e2 : σ 35 b ≤ σ 35 i <;> simp [e1, e2]
  · by_cases e2 : σ 37 i ≤ σ 37 b <;> simp [e1, e2]
def wtg (un mi : Nat → Int32) (t : Int32) (i : Nat) : Bool := decide (un i = -1) && !decide (t < mi i)
theorem pick_s (P : Nat → Bool) (B : Nat → Nat → Bool) (n : Nat) : pick P B (n + 1) = (match pick P B n with | none => if P n then some n else none | some b => if P n && B n b then some n else some b) := rfl
theorem firstWaiting_X {σ : St} {N : Nat} (t : Int32) (hN : σ 34 4 = nI N) (h60 : N ≤ 60) : f_X2_firstWaiting t σ = some (enc (pick (wtg (σ 14) (σ 35) t) (ahd (σ 37) (σ 35)) N), σ) := by
  unfold f_X2_firstWaiting
  refine loop_v (fun n j a => f_X2_firstWaiting_L4 t (fun y s => some (y, s)) n a (nI j) σ) (fun a => some (a, σ)) N (fun j => enc (pick (wtg (σ 14) (σ 35) t) (ahd (σ 37) (σ 35)) j)) ?_ ?_ FU 0 (Nat.zero_le _) (by unfold FU; omega)
  · intro n
    show f_X2_firstWaiting_L4 _ _ (n + 1) _ _ σ = _
    rw [f_X2_firstWaiting_L4, hN, if_pos (nI_le (Nat.le_refl _) (by omega))]
  · intro n j hj
    show f_X2_firstWaiting_L4 _ _ (n + 1) _ _ σ = f_X2_firstWaiting_L4 _ _ n _ _ σ
    have hc : (nI j).toNatClampNeg = j := nI_clamp (by omega)
    rw [f_X2_firstWaiting_L4, hN, if_neg (nI_ge hj (by omega)), ixb_nI (by omega) (by decide)]
    simp only [ck_d, rd, hc, lt_d, nI_s, pick_s]
    cases hp : pick (wtg (σ 14) (σ 35) t) (ahd (σ 37) (σ 35)) j with
    | none =>
      by_cases h1 : σ 14 j = -1
      · by_cases h2 : t < σ 35 j
        · have e : wtg (σ 14) (σ 35) t j = false := by simp [wtg, h2]
          simp [h1, h2, e, enc]
        · have e : wtg (σ 14) (σ 35) t j = true := by simp [wtg, h1, h2]
          simp [h1, h2, e, enc]
      · have e : wtg (σ 14) (σ 35) t j = false := by simp [wtg, h1]
        simp [h1, e, enc]
    | some b =>
      have hb := pick_lt hp
      have hne := enc_some_ne (i := b) (by omega)
      by_cases h1 : σ 14 j = -1
      · by_cases h2 : t < σ 35 j
        · have e : wtg (σ 14) (σ 35) t j = false := by simp [wtg, h2]
          simp [h1, h2, e, enc]
        · have e : wtg (σ 14) (σ 35) t j = true := by simp [wtg, h1, h2]
          simp only [h1, h2, e, enc, if_true, if_false, hne, goesAhead_X (show j < 60 by omega) (show b < 60 by omega), bd_d, Bool.true_and]
          rw [if_neg (by decide)]
          by_cases h3 : ahd (σ 37) (σ 35) j b = true
          · simp [h3, enc]
          · simp [h3, enc]
      · have e : wtg (σ 14) (σ 35) t j = false := by simp [wtg, h1]
        simp [h1, e, enc]
def freeC (σ : St) (t : Int32) (u : Nat) : Bool := decide (σ 18 u = 0) && !decide (t < σ 32 u)
theorem isFree_X {σ : St} {u : Nat} (t : Int32) (h : u < 12) : f_X2_isFree (nI u) t σ = some (if freeC σ t u then 1 else 0, σ) := by
  unfold f_X2_isFree
  have hc : (nI u).toNatClampNeg = u := nI_clamp (by omega)
  simp only [ixb_nI h (by decide), rd, hc, ck_d, freeC]
  by_cases h1 : σ 18 u = 0
  · by_cases h2 : t < σ 32 u <;> simp [h1, h2]
  · simp [h1]
