/-! both sides play the same day, step by step -/
theorem cnt_s (P : Nat → Bool) (n : Nat) : cnt P (n + 1) = cnt P n + (if P n then 1 else 0) := rfl
theorem cnt_off {P Q : Nat → Bool} {i : Nat} (hP : P i = true) (hQ : Q i = false) (h : ∀ j, j ≠ i → Q j = P j) : ∀ n, i < n → cnt Q n + 1 = cnt P n
  | 0, hi => absurd hi (Nat.not_lt_zero i)
  | n + 1, hi => by
    rw [cnt_s, cnt_s]
    by_cases e : i = n
    · subst e
      rw [hP, hQ, cnt_congr (P := Q) (Q := P) i (fun j hj => h j (by omega))]
      simp
    · rw [h n (Ne.symm e)]
      have := cnt_off hP hQ h n (by omega)
      omega
theorem cnt_mono {P Q : Nat → Bool} : ∀ n, (∀ i, i < n → P i = true → Q i = true) → cnt P n ≤ cnt Q n
  | 0, _ => Nat.le_refl 0
  | n + 1, h => by
    rw [cnt_s, cnt_s]
    have h1 := cnt_mono n (fun i hi => h i (by omega))
    have h2 := h n (by omega)
    cases hP : P n with
    | false => simp; omega
    | true => rw [h2 hP]; simp; omega
theorem cnt_lt {P Q : Nat → Bool} {i : Nat} (hP : P i = false) (hQ : Q i = true) : ∀ n, i < n → (∀ j, j < n → P j = true → Q j = true) → cnt P n < cnt Q n
  | 0, hi, _ => absurd hi (Nat.not_lt_zero i)
  | n + 1, hi, h => by
    rw [cnt_s, cnt_s]
    by_cases e : i = n
    · subst e
      have h1 := cnt_mono i (fun j hj => h j (by omega))
      rw [hP, hQ]
      simp; omega
    · have h1 := cnt_lt hP hQ n (by omega) (fun j hj => h j (by omega))
      have h2 := h n (by omega)
      cases hP2 : P n with
      | false => simp; omega
      | true => rw [h2 hP2]; simp; omega
theorem cnt_all {P : Nat → Bool} : ∀ n, (∀ i, i < n → P i = false) → cnt P n = 0
  | 0, _ => rfl
  | n + 1, h => by rw [cnt_s, h n (by omega), cnt_all n (fun i hi => h i (by omega))]; rfl
theorem cnt_eq_imp {P Q : Nat → Bool} : ∀ n, (∀ i, i < n → P i = true → Q i = true) → cnt P n = cnt Q n → ∀ i, i < n → Q i = true → P i = true
  | 0, _, _, i, hi, _ => absurd hi (Nat.not_lt_zero i)
  | n + 1, h, e, i, hi, hQ => by
    rcases Bool.eq_false_or_eq_true (P i) with hp | hp
    · exact hp
    · have := cnt_lt (P := P) (Q := Q) hp hQ (n + 1) hi h
      omega
theorem cnt_ext {P : Nat → Bool} (n : Nat) : ∀ k, (∀ i, n ≤ i → i < n + k → P i = false) → cnt P (n + k) = cnt P n
  | 0, _ => rfl
  | k + 1, h => by
    rw [← Nat.add_assoc, cnt_s, h (n + k) (by omega) (by omega), cnt_ext n k (fun i h1 h2 => h i h1 (by omega))]
    simp
theorem cnt_ext1 {P : Nat → Bool} (n : Nat) : ∀ k, (∀ i, n ≤ i → i < n + k → P i = true) → cnt P (n + k) = cnt P n + k
  | 0, _ => rfl
  | k + 1, h => by
    rw [← Nat.add_assoc, cnt_s, h (n + k) (by omega) (by omega), cnt_ext1 n k (fun i h1 h2 => h i h1 (by omega))]
    simp; omega
def mnN (x : Nat → Nat) (t : Nat) (d : Option Nat) : Nat → Option Nat
  | 0 => d
  | j + 1 => if x j ≤ t then mnN x t d j else match mnN x t d j with
    | none => some (x j)
    | some y => if x j < y then some (x j) else some y
def encd (D : Nat) : Option Nat → Int32
  | none => nI D
  | some y => nI y
theorem mnN_s (x : Nat → Nat) (t : Nat) (d : Option Nat) (j : Nat) : mnN x t d (j + 1) = (if x j ≤ t then mnN x t d j else match mnN x t d j with | none => some (x j) | some y => if x j < y then some (x j) else some y) := rfl
theorem mnN_spec (x : Nat → Nat) (t : Nat) (d : Option Nat) : ∀ n, (mnN x t d n = none → d = none ∧ ∀ j, j < n → x j ≤ t) ∧ (∀ y, mnN x t d n = some y → (d = some y ∨ ∃ j, j < n ∧ x j = y ∧ t < y) ∧ (∀ j, j < n → t < x j → y ≤ x j) ∧ ∀ z, d = some z → y ≤ z)
  | 0 => ⟨fun h => ⟨h, fun j hj => absurd hj (Nat.not_lt_zero j)⟩, fun y h => ⟨Or.inl h, fun j hj => absurd hj (Nat.not_lt_zero j), fun z hz => by rw [show mnN x t d 0 = d from rfl, hz] at h; cases h; exact Nat.le_refl _⟩⟩
  | n + 1 => by
    obtain ⟨h1, h2⟩ := mnN_spec x t d n
    rw [mnN_s]
    by_cases hx : x n ≤ t
    · rw [if_pos hx]
      refine ⟨fun h => ⟨(h1 h).1, fun j hj => ?_⟩, fun y h => ?_⟩
      · by_cases e : j = n
        · subst e; exact hx
        · exact (h1 h).2 j (by omega)
      · obtain ⟨a, b, c⟩ := h2 y h
        refine ⟨?_, fun j hj hj2 => ?_, c⟩
        · rcases a with a | ⟨j, a1, a2⟩
          · exact Or.inl a
          · exact Or.inr ⟨j, by omega, a2⟩
        · by_cases e : j = n
          · subst e; omega
          · exact b j (by omega) hj2
    · rw [if_neg hx]
      cases hm : mnN x t d n with
      | none =>
        obtain ⟨g1, g2⟩ := h1 hm
        refine ⟨fun h => (by cases h), fun y h => ?_⟩
        cases h
        refine ⟨Or.inr ⟨n, by omega, rfl, by omega⟩, fun j hj hj2 => ?_, fun z hz => by rw [g1] at hz; cases hz⟩
        by_cases e : j = n
        · subst e; exact Nat.le_refl _
        · have := g2 j (by omega); omega
      | some y0 =>
        obtain ⟨a, b, c⟩ := h2 y0 hm
        show ((if x n < y0 then some (x n) else some y0) = none → _) ∧ ∀ y, (if x n < y0 then some (x n) else some y0) = some y → _
        by_cases hlt : x n < y0
        · rw [if_pos hlt]
          refine ⟨fun h => (by cases h), fun y h => ?_⟩
          cases h
          refine ⟨Or.inr ⟨n, by omega, rfl, by omega⟩, fun j hj hj2 => ?_, fun z hz => by have := c z hz; omega⟩
          by_cases e : j = n
          · subst e; exact Nat.le_refl _
          · have := b j (by omega) hj2; omega
        · rw [if_neg hlt]
          refine ⟨fun h => (by cases h), fun y h => ?_⟩
          cases h
          refine ⟨?_, fun j hj hj2 => ?_, c⟩
          · rcases a with a | ⟨j, a1, a2⟩
            · exact Or.inl a
            · exact Or.inr ⟨j, by omega, a2⟩
          · by_cases e : j = n
            · subst e; omega
            · exact b j (by omega) hj2
theorem mn_nI {x : Nat → Int32} {xn : Nat → Nat} {t D : Nat} {d : Option Nat} (hD : D < 2147483648) (hd : ∀ y, d = some y → y < D) : ∀ n, (∀ j, j < n → x j = nI (xn j) ∧ xn j < D) → t < 2147483648 → mn x (nI t) (encd D d) n = encd D (mnN xn t d n) ∧ ∀ y, mnN xn t d n = some y → y < D
  | 0, _, _ => ⟨rfl, fun y h => hd y h⟩
  | n + 1, hx, ht => by
    obtain ⟨h1, h2⟩ := mn_nI hD hd n (fun j hj => hx j (by omega)) ht
    obtain ⟨e1, e2⟩ := hx n (by omega)
    rw [mnN_s]
    show (if x n ≤ nI t then mn x (nI t) (encd D d) n else if x n < mn x (nI t) (encd D d) n then x n else mn x (nI t) (encd D d) n) = _ ∧ _
    rw [h1, e1]
    by_cases c1 : xn n ≤ t
    · rw [if_pos ((nI_leI (by omega) ht).mpr c1), if_pos c1]
      exact ⟨rfl, h2⟩
    · rw [if_neg (fun h => c1 ((nI_leI (by omega) ht).mp h)), if_neg c1]
      cases hm : mnN xn t d n with
      | none =>
        rw [if_pos (show nI (xn n) < encd D none from (nI_ltI (by omega) hD).mpr e2)]
        exact ⟨rfl, fun y h => by cases h; exact e2⟩
      | some y0 =>
        have hy := h2 y0 hm
        show (if nI (xn n) < nI y0 then nI (xn n) else nI y0) = encd D (if xn n < y0 then some (xn n) else some y0) ∧ ∀ y, (if xn n < y0 then some (xn n) else some y0) = some y → y < D
        by_cases c2 : xn n < y0
        · rw [if_pos ((nI_ltI (by omega) (by omega)).mpr c2), if_pos c2]
          exact ⟨rfl, fun y h => by cases h; exact e2⟩
        · rw [if_neg (fun h => c2 ((nI_ltI (by omega) (by omega)).mp h)), if_neg c2]
          exact ⟨rfl, fun y h => by cases h; exact hy⟩
