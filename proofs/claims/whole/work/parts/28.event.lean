section EV
variable {σ τ : St} {v N U : Nat} {mi ar la : Nat → Nat} {lo : Nat → Bool} {wy : Nat → Nat → Nat} {now : Nat} {bk : Nat → Nat}
/-- the next event: none, or a minute above now -/
theorem Rel.event (R : Rel σ τ v N U mi ar la lo wy now bk) : ∃ nx : Option Nat, f_X2_nextEvent (nI now) σ = some (encd 2147483647 nx, σ) ∧ f_X5_later (nI now) τ = some (encd 100000000 nx, τ) ∧
    (nx = none → (∀ i, i < N → mi i ≤ now) ∧ ∀ u, u < 12 → bk u ≤ now) ∧
    (∀ t, nx = some t → now < t ∧ t ≤ bnd σ N ∧ (∀ i, i < N → now < mi i → t ≤ mi i) ∧ (∀ u, u < 12 → now < bk u → t ≤ bk u) ∧ ((∃ i, i < N ∧ mi i = t) ∨ ∃ u, u < 12 ∧ bk u = t)) := by
  obtain ⟨⟨⟨h60, h12, hv, c1, c2, c3, c4⟩, hcalls, hunits⟩, ⟨hd1, hd2, hd3, hd4, hd5⟩, hB, hM, hn⟩ := R
  have hb := bnd_le (σ := σ) h60
  obtain ⟨nx, hnx⟩ : ∃ nx, nx = mnN bk now (mnN mi now none N) U := ⟨_, rfl⟩
  have x1 := mn_nI (x := σ 35) (xn := mi) (t := now) (D := 2147483647) (d := none) (by omega) (fun y h => by cases h) N (fun j hj => ⟨(hcalls j hj).1.1, by have := (hcalls j hj).2.1; omega⟩) (by omega)
  have x2 := mn_nI (x := σ 32) (xn := bk) (t := now) (D := 2147483647) (d := mnN mi now none N) (by omega) x1.2 U (fun j hj => ⟨(hd3 j (by omega)).1, by have := (hd3 j (by omega)).2.2; omega⟩) (by omega)
  have y1 := mn_nI (x := τ 46) (xn := mi) (t := now) (D := 100000000) (d := none) (by omega) (fun y h => by cases h) N (fun j hj => ⟨(hcalls j hj).1.2.1, by have := (hcalls j hj).2.1; omega⟩) (by omega)
  have y2 := mn_nI (x := τ 53) (xn := bk) (t := now) (D := 100000000) (d := mnN mi now none N) (by omega) y1.2 U (fun j hj => ⟨(hd3 j (by omega)).2.1, by have := (hd3 j (by omega)).2.2; omega⟩) (by omega)
  have s1 := mnN_spec mi now none N
  have s2 := mnN_spec bk now (mnN mi now none N) U
  refine ⟨nx, ?_, ?_, ?_, ?_⟩
  · rw [nextEvent_X (nI now) c1 h60 c3 h12, hnx, ← x2.1, ← x1.1, nvr]
    rfl
  · rw [later_M (nI now) c2 h60 c4 h12, hnx, ← y2.1, ← y1.1, far]
    rfl
  · intro h
    rw [hnx] at h
    obtain ⟨g1, g2⟩ := s2.1 h
    refine ⟨(s1.1 g1).2, fun u hu => ?_⟩
    by_cases e : u < U
    · exact g2 u e
    · rw [hd4 u hu (by omega)]; exact Nat.zero_le _
  · intro t h
    rw [hnx] at h
    obtain ⟨g1, g2, g3⟩ := s2.2 t h
    have hbk : ∀ u, u < 12 → now < bk u → t ≤ bk u := by
      intro u hu hlt
      by_cases e : u < U
      · exact g2 u e hlt
      · rw [hd4 u hu (by omega)] at hlt; omega
    have hmi : ∀ i, i < N → now < mi i → t ≤ mi i := by
      intro i hi hlt
      cases hz : mnN mi now none N with
      | none => have := (s1.1 hz).2 i hi; omega
      | some z =>
        have a := g3 z hz
        have b := ((s1.2 z hz).2.1) i hi hlt
        omega
    rcases g1 with g1 | ⟨u, hu, he, hlt⟩
    · obtain ⟨k1, k2, k3⟩ := s1.2 t g1
      rcases k1 with k1 | ⟨i, hi, he, hlt⟩
      · cases k1
      · have := (hcalls i hi).2.1
        refine ⟨hlt, ?_, hmi, hbk, Or.inl ⟨i, hi, he⟩⟩
        have : 1440 ≤ bnd σ N := by unfold bnd; omega
        omega
    · have := (hd3 u (by omega)).2.2
      exact ⟨hlt, by omega, hmi, hbk, Or.inr ⟨u, by omega, he⟩⟩
/-- until when nothing changes -/
def till (nx : Option Nat) : Nat := match nx with
  | none => 1440
  | some t => min t 1440
theorem Rel.anyFree (R : Rel σ τ v N U mi ar la lo wy now bk) : f_X2_isAnyFree (nI now) σ = some (if cnt (fun u => !lo u && decide (bk u ≤ now)) U = 0 then 0 else 1, σ) := by
  have hfree := fun u hu => R.free (u := u) hu
  obtain ⟨⟨⟨h60, h12, hv, c1, c2, c3, c4⟩, hcalls, hunits⟩, -⟩ := R
  rw [isAnyFree_X (nI now) c3 h12, cnt_congr U (fun u hu => (hfree u hu).1)]
/-- the missed minutes up to the next event -/
theorem Rel.missed (R : Rel σ τ v N U mi ar la lo wy now bk) {nx : Option Nat} (h0 : nx = none → ∀ u, u < 12 → bk u ≤ now) (h1 : ∀ t, nx = some t → now < t ∧ ∀ u, u < 12 → now < bk u → t ≤ bk u) :
    cnt (isM τ (many U lo)) (till nx) = cnt (isM τ (many U lo)) (min now 1440) + (if cnt (fun u => !lo u && decide (bk u ≤ now)) U = 0 then till nx - now else 0) := by
  obtain ⟨⟨⟨h60, h12, hv, c1, c2, c3, c4⟩, hcalls, hunits⟩, ⟨hd1, hd2, hd3, hd4, hd5⟩, hB, hM, hn⟩ := R
  have ht : till nx ≤ 1440 := by
    unfold till
    cases nx with
    | none => exact Nat.le_refl _
    | some t => exact Nat.min_le_right _ _
  have htn : now < 1440 → now ≤ till nx := by
    intro hlt
    unfold till
    cases nx with
    | none => show now ≤ 1440; omega
    | some t => have := (h1 t rfl).1; show now ≤ min t 1440; omega
  have ht2 : ¬ now < 1440 → till nx = 1440 := by
    intro hlt
    unfold till
    cases nx with
    | none => rfl
    | some t => have := (h1 t rfl).1; show min t 1440 = 1440; omega
  have htb : ∀ u, u < 12 → now < bk u → till nx ≤ bk u := by
    intro u hu hlt
    unfold till
    cases nx with
    | none => have := h0 rfl u hu; omega
    | some t => have := (h1 t rfl).2 u hu hlt; show min t 1440 ≤ bk u; omega
  by_cases hlt : now < 1440
  · have e1 := htn hlt
    have hmn : min now 1440 = now := by omega
    have cz : cnt (fun u => decide (now < bk u)) 12 = cnt (fun u => decide (now < bk u)) U := by
      have := cnt_ext (P := fun u => decide (now < bk u)) U (12 - U) (fun i a b => by rw [hd4 i (by omega) a]; simp)
      rw [show U + (12 - U) = 12 by omega] at this
      exact this
    have himp : ∀ u, u < U → (decide (now < bk u)) = true → (!lo u) = true := by
      intro u hu h
      cases hl : lo u with
      | false => rfl
      | true => rw [hd5 u hu hl] at h; simp at h
    have hle := cnt_le (fun u => decide (now < bk u)) U
    have hle2 : many U lo ≤ U := cnt_le _ _
    have hval : ∀ m, now ≤ m → m < till nx → isM τ (many U lo) m = decide (cnt (fun u => decide (now < bk u)) U = many U lo) := by
      intro m h2 h3
      unfold isM
      have ec : cnt (fun u => decide (m < bk u)) 12 = cnt (fun u => decide (now < bk u)) U := by
        rw [← cz]
        refine cnt_congr 12 (fun u hu => ?_)
        by_cases q : now < bk u
        · have := htb u hu q
          rw [decide_eq_true q, decide_eq_true (by omega)]
        · rw [decide_eq_false q, decide_eq_false (by omega)]
      rw [hB m h2 (by omega), ec]
      exact decide_eq_decide.mpr (nI_eq (by omega) (by omega))
    rw [hmn]
    obtain ⟨k, hk⟩ : ∃ k, till nx = now + k := ⟨till nx - now, by omega⟩
    by_cases hf : cnt (fun u => !lo u && decide (bk u ≤ now)) U = 0
    · rw [if_pos hf, hk, show now + k - now = k by omega]
      refine cnt_ext1 now k (fun m a b => ?_)
      rw [hval m a (by omega)]
      refine decide_eq_true ?_
      unfold many
      refine cnt_congr U (fun u hu => ?_)
      have hz := cnt_zero hf u hu
      cases hl : lo u with
      | true =>
        rw [hd5 u hu hl]
        simp
      | false =>
        rw [hl] at hz
        simp at hz
        simp; exact hz
    · rw [if_neg hf, hk, Nat.add_zero]
      refine cnt_ext now k (fun m a b => ?_)
      rw [hval m a (by omega)]
      refine decide_eq_false (fun e => hf ?_)
      unfold many at e
      have hall := cnt_eq_imp U himp e
      refine cnt_all U (fun u hu => ?_)
      cases hl : lo u with
      | true => rfl
      | false =>
        have := hall u hu (by rw [hl]; rfl)
        simp at this
        simp; omega
  · rw [ht2 hlt, show min now 1440 = 1440 by omega, show 1440 - now = 0 by omega]
    simp
end EV
