theorem nvr : (2147483647 : Int32) = nI 2147483647 := by decide +kernel
theorem far : (100000000 : Int32) = nI 100000000 := by decide +kernel
theorem ltNvr {w : Nat} (h : w < 2147483647) : ¬ (2147483647 : Int32) ≤ nI w := by
  rw [Int32.le_iff_toInt_le, nI_toInt (by omega), show (2147483647 : Int32).toInt = 2147483647 by decide +kernel]
  omega
theorem ltFar {w : Nat} (h : w < 100000000) : ¬ (100000000 : Int32) ≤ nI w := by
  rw [Int32.le_iff_toInt_le, nI_toInt (by omega), show (100000000 : Int32).toInt = 100000000 by decide +kernel]
  omega
/-- what stands while a day is played: the calls, the units' stations and ways -/
def Fix (σ τ : St) (v N U : Nat) (mi ar la : Nat → Nat) (lo : Nat → Bool) (wy : Nat → Nat → Nat) : Prop :=
  (N ≤ 60 ∧ U ≤ 12 ∧ v < 4 ∧ σ 34 4 = nI N ∧ τ 39 12 = nI N ∧ σ 13 9 = nI U ∧ τ 39 10 = nI U) ∧
  (∀ i, i < N → (σ 35 i = nI (mi i) ∧ τ 46 i = nI (mi i) ∧ σ 36 i = nI (ar i) ∧ τ 47 i = nI (ar i) ∧ σ 37 i = τ 48 i ∧ σ 38 i = nI (la i) ∧ τ 49 i = nI (la i)) ∧ mi i < 1440 ∧ ar i < 10 ∧ 10 ≤ la i ∧ la i ≤ 99) ∧
  ∀ u, u < U → (lo u = true ∧ σ 18 u = 1 ∧ τ 45 (12 * v + u) = -1) ∨ (lo u = false ∧ σ 18 u = 0 ∧ ∃ s, s < 6 ∧ τ 45 (12 * v + u) = nI s ∧ ∀ i, i < N → wy u (ar i) ≤ 446 ∧ σ (20 + u) (ar i) = nI (wy u (ar i)) ∧ wayM τ s (ar i) = nI (wy u (ar i)))
def uns (σ : St) (N : Nat) : Nat := cnt (fun i => decide (σ 14 i = -1)) N
/-- what changes: who was sent, when back; B bounds all times -/
def Dyn (σ τ : St) (N U : Nat) (mi : Nat → Nat) (lo : Nat → Bool) (bk : Nat → Nat) (B : Nat) : Prop :=
  (∀ i, i < N → σ 14 i = τ 50 i ∧ (σ 14 i = -1 ∨ ((∃ u, u < U ∧ σ 14 i = nI u) ∧ σ 15 i = τ 52 i ∧ σ 16 i = τ 51 i ∧ ∃ t, σ 16 i = nI t ∧ mi i ≤ t ∧ t ≤ B))) ∧
  (∀ u, u < 12 → σ 17 u = τ 54 u) ∧ (∀ u, u < 12 → σ 32 u = nI (bk u) ∧ τ 53 u = nI (bk u) ∧ bk u ≤ B) ∧ (∀ u, u < 12 → U ≤ u → bk u = 0) ∧ (∀ u, u < U → lo u = true → bk u = 0)
def many (U : Nat) (lo : Nat → Bool) : Nat := cnt (fun u => !lo u) U
/-- the busy minutes still to come; the missed ones so far -/
def Bus (τ : St) (now : Nat) (bk : Nat → Nat) : Prop := ∀ m, now ≤ m → m < 1440 → τ 55 m = nI (cnt (fun u => decide (m < bk u)) 12)
def isM (τ : St) (k : Nat) (m : Nat) : Bool := decide (τ 55 m = nI k)
def Mis (σ τ : St) (now k : Nat) : Prop := σ 13 10 = nI (cnt (isM τ k) (min now 1440))
def bnd (σ : St) (N : Nat) : Nat := 1440 + 1000 * (60 - uns σ N)
def Rel (σ τ : St) (v N U : Nat) (mi ar la : Nat → Nat) (lo : Nat → Bool) (wy : Nat → Nat → Nat) (now : Nat) (bk : Nat → Nat) : Prop :=
  Fix σ τ v N U mi ar la lo wy ∧ Dyn σ τ N U mi lo bk (bnd σ N) ∧ Bus τ now bk ∧ Mis σ τ now (many U lo) ∧ now ≤ bnd σ N
section RL
variable {σ τ : St} {v N U : Nat} {mi ar la : Nat → Nat} {lo : Nat → Bool} {wy : Nat → Nat → Nat} {now : Nat} {bk : Nat → Nat}
theorem uns_le : uns σ N ≤ N := cnt_le _ _
theorem bnd_le (h : N ≤ 60) : bnd σ N ≤ 61440 := by unfold bnd; omega
/-- both pick the same waiting call -/
theorem Rel.who (R : Rel σ τ v N U mi ar la lo wy now bk) : ∃ q, f_X2_firstWaiting (nI now) σ = some (enc q, σ) ∧ f_X5_next (nI now) τ = some (enc q, τ) ∧ (∀ i, q = some i → i < N ∧ σ 14 i = -1 ∧ mi i ≤ now) := by
  obtain ⟨⟨⟨h60, h12, hv, c1, c2, c3, c4⟩, hcalls, hunits⟩, ⟨hd1, hd2, hd3, hd4, hd5⟩, hB, hM, hn⟩ := R
  have hb := bnd_le (σ := σ) h60
  have e1 : ∀ i, i < N → wtg (σ 14) (σ 35) (nI now) i = wtgM (τ 50) (τ 46) (nI now) i := by
    intro i hi
    obtain ⟨⟨a1, a2, -⟩, -⟩ := hcalls i hi
    obtain ⟨b1, b2⟩ := hd1 i hi
    unfold wtg wtgM
    rw [a1, a2, ← b1]
    rcases b2 with b2 | ⟨⟨u, hu, b2⟩, -⟩
    · rw [b2]; rfl
    · rw [b2]
      have n1 := enc_some_ne (i := u) (by omega)
      have n2 : (0 : Int32) ≤ nI u := nI_pos' (by omega)
      simp [n1, n2]
  have e2 : ∀ i b, i < N → b < N → ahd (σ 37) (σ 35) i b = ahd (τ 48) (τ 46) i b := by
    intro i b hi hb
    obtain ⟨⟨a1, a2, -, -, a5, -⟩, -⟩ := hcalls i hi
    obtain ⟨⟨b1, b2, -, -, b5, -⟩, -⟩ := hcalls b hb
    unfold ahd
    rw [a1, a2, a5, b1, b2, b5]
  refine ⟨pick (wtg (σ 14) (σ 35) (nI now)) (ahd (σ 37) (σ 35)) N, firstWaiting_X (nI now) c1 h60, ?_, ?_⟩
  · rw [next_M (nI now) c2 h60, (pick_congr N e1 e2).1]
  · intro i hi
    have hlt := pick_lt hi
    have hp := pick_P hi
    refine ⟨hlt, ?_⟩
    obtain ⟨⟨a1, -⟩, a2, -⟩ := hcalls i hlt
    unfold wtg at hp
    simp only [Bool.and_eq_true, decide_eq_true_eq, Bool.not_eq_true', decide_eq_false_iff_not] at hp
    refine ⟨hp.1, ?_⟩
    have h2 := hp.2
    rw [a1, nI_ltI (by omega) (by omega)] at h2
    omega
theorem Rel.free (R : Rel σ τ v N U mi ar la lo wy now bk) {u : Nat} (hu : u < U) : freeC σ (nI now) u = (!lo u && decide (bk u ≤ now)) ∧ freeM τ v (nI now) u = (!lo u && decide (bk u ≤ now)) := by
  obtain ⟨⟨⟨h60, h12, hv, c1, c2, c3, c4⟩, hcalls, hunits⟩, ⟨hd1, hd2, hd3, hd4, hd5⟩, hB, hM, hn⟩ := R
  have hb := bnd_le (σ := σ) h60
  obtain ⟨b1, b2, b3⟩ := hd3 u (by omega)
  have hk : (nI now < nI (bk u)) ↔ now < bk u := nI_ltI (by omega) (by omega)
  unfold freeC freeM
  rw [b1, b2]
  rcases hunits u hu with ⟨a1, a2, a3⟩ | ⟨a1, a2, s, hs, a3, -⟩
  · rw [a1, a2, a3]
    simp
  · have n2 : ¬ nI s < (0 : Int32) := nI_nneg (by omega)
    rw [a1, a2, a3]
    by_cases h : now < bk u
    · simp [hk, h, n2]
    · simp [hk, h, n2]; omega
theorem pick_free {P Q : Nat → Bool} {w x : Nat → Int32} (U : Nat) (h : ∀ u, u < U → P u = Q u) (hw : ∀ n b, n < U → b < U → P n = true → P b = true → (w b ≤ w n ↔ x b ≤ x n)) : pick Q (nrr w) U = pick P (nrr x) U := by
  have key : ∀ n, n ≤ U → pick Q (nrr w) n = pick P (nrr x) n := by
    intro n
    induction n with
    | zero => intro _; show (none : Option Nat) = none; rfl
    | succ n ih =>
      intro hn
      rw [pick_s, pick_s, ih (by omega), ← h n (by omega)]
      cases hp : pick P (nrr x) n with
      | none => rfl
      | some b =>
        have hb1 := pick_lt hp
        have e : (P n && nrr w n b) = (P n && nrr x n b) := by
          cases hf : P n with
          | false => rw [Bool.false_and, Bool.false_and]
          | true =>
            have h9 := hw n b (by omega) (by omega) hf (pick_P hp)
            unfold nrr
            by_cases q : w b ≤ w n
            · rw [decide_eq_true q, decide_eq_true (h9.mp q)]
            · rw [decide_eq_false q, decide_eq_false (fun z => q (h9.mpr z))]
        show (if P n && nrr w n b then some n else some b) = (if P n && nrr x n b then some n else some b)
        rw [e]
  exact key U (Nat.le_refl U)
/-- both pick the same unit for call i -/
theorem Rel.near (R : Rel σ τ v N U mi ar la lo wy now bk) {i : Nat} (hi : i < N) : ∃ q, f_X2_nearestFree (nI now) (nI (ar i)) σ = some (enc q, σ) ∧ f_X5_nearest (nI v) (nI (ar i)) (nI now) τ = some (enc q, τ) ∧ (∀ u, q = some u → u < U ∧ lo u = false ∧ bk u ≤ now) ∧ (q = none → ∀ u, u < U → lo u = true ∨ now < bk u) := by
  have hfree := fun u hu => R.free (u := u) hu
  obtain ⟨⟨⟨h60, h12, hv, c1, c2, c3, c4⟩, hcalls, hunits⟩, ⟨hd1, hd2, hd3, hd4, hd5⟩, hB, hM, hn⟩ := R
  obtain ⟨-, -, har, -⟩ := hcalls i hi
  have hway : ∀ u, u < U → lo u = false → wy u (ar i) ≤ 446 ∧ σ (20 + u) (ar i) = nI (wy u (ar i)) ∧ f_X5_wayOf (τ 45 (12 * v + u)) (nI (ar i)) τ = some (nI (wy u (ar i)), τ) := by
    intro u hu hl
    rcases hunits u hu with ⟨a1, -⟩ | ⟨a1, a2, s, hs, a3, a4⟩
    · rw [hl] at a1; cases a1
    · obtain ⟨w1, w2, w3⟩ := a4 i hi
      exact ⟨w1, w2, by rw [a3, wayOf_M hs har, w3]⟩
  have hlof : ∀ u, u < U → freeC σ (nI now) u = true → lo u = false := by
    intro u hu h
    rw [(hfree u hu).1] at h
    simp only [Bool.and_eq_true, Bool.not_eq_true'] at h
    exact h.1
  refine ⟨pick (freeC σ (nI now)) (nrr (fun u => σ (20 + u) (ar i))) U, nearestFree_X (nI now) c3 h12 har ?_, ?_, ?_, ?_⟩
  · intro u hu hf
    obtain ⟨w1, w2, -⟩ := hway u hu (hlof u hu hf)
    rw [w2]
    exact ltNvr (by omega)
  · obtain ⟨W, hW⟩ : ∃ W : Nat → Int32, ∀ u, W u = nI (wy u (ar i)) := ⟨fun u => nI (wy u (ar i)), fun _ => rfl⟩
    have hw : ∀ u, u < U → freeM τ v (nI now) u = true → f_X5_wayOf (τ 45 (12 * v + u)) (nI (ar i)) τ = some (W u, τ) ∧ ¬ (100000000 : Int32) ≤ W u := by
      intro u hu hf
      have hl : lo u = false := by
        rw [(hfree u hu).2] at hf
        simp only [Bool.and_eq_true, Bool.not_eq_true'] at hf
        exact hf.1
      obtain ⟨w1, -, w3⟩ := hway u hu hl
      rw [hW u]
      exact ⟨w3, ltFar (by omega)⟩
    rw [nearest_M (nI now) W c4 h12 hv hw]
    have e1 : ∀ u, u < U → freeC σ (nI now) u = freeM τ v (nI now) u := fun u hu => by rw [(hfree u hu).1, (hfree u hu).2]
    rw [pick_free U e1 (fun n b hn hb h1 h2 => ?_)]
    rw [hW, hW, (hway n hn (hlof n hn h1)).2.1, (hway b hb (hlof b hb h2)).2.1]
  · intro u hu
    have hlt := pick_lt hu
    have hp := pick_P hu
    rw [(hfree u hlt).1] at hp
    simp only [Bool.and_eq_true, Bool.not_eq_true', decide_eq_true_eq] at hp
    exact ⟨hlt, hp.1, hp.2⟩
  · intro hq u hu
    have h := pick_none hq u hu
    rw [(hfree u hu).1] at h
    cases hl : lo u with
    | true => exact Or.inl rfl
    | false =>
      right
      rw [hl] at h
      simp at h
      omega
end RL
