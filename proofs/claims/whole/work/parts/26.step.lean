section ST
variable {σ τ : St} {v N U : Nat} {mi ar la : Nat → Nat} {lo : Nat → Bool} {wy : Nat → Nat → Nat} {now : Nat} {bk : Nat → Nat}
theorem wayM_congr {σ τ : St} (h : σ 39 1 = τ 39 1) (h0 : σ 40 = τ 40) (h1 : σ 41 = τ 41) (h2 : σ 42 = τ 42) (h3 : σ 43 = τ 43) (s a : Nat) : wayM σ s a = wayM τ s a := by
  unfold wayM
  rw [h, h0, h1, h2, h3]
theorem Fix.keep {σ' τ' : St} (F : Fix σ τ v N U mi ar la lo wy) (h1 : ∀ k, k = 34 ∨ k = 35 ∨ k = 36 ∨ k = 37 ∨ k = 38 ∨ k = 18 ∨ (20 ≤ k ∧ k < 32) → σ' k = σ k) (h13 : σ' 13 9 = σ 13 9) (h2 : ∀ k, k = 45 ∨ k = 46 ∨ k = 47 ∨ k = 48 ∨ k = 49 ∨ (39 ≤ k ∧ k < 44) → τ' k = τ k) : Fix σ' τ' v N U mi ar la lo wy := by
  obtain ⟨⟨h60, h12, hv, c1, c2, c3, c4⟩, hcalls, hunits⟩ := F
  refine ⟨⟨h60, h12, hv, by rw [h1 34 (by omega)]; exact c1, by rw [h2 39 (by omega)]; exact c2, by rw [h13]; exact c3, by rw [h2 39 (by omega)]; exact c4⟩, fun i hi => ?_, fun u hu => ?_⟩
  · rw [h1 35 (by omega), h1 36 (by omega), h1 37 (by omega), h1 38 (by omega), h2 46 (by omega), h2 47 (by omega), h2 48 (by omega), h2 49 (by omega)]
    exact hcalls i hi
  · rw [h1 18 (by omega), h2 45 (by omega), h1 (20 + u) (by omega)]
    rcases hunits u hu with h | ⟨a1, a2, s, a3, a4, a5⟩
    · exact Or.inl h
    · refine Or.inr ⟨a1, a2, s, a3, a4, fun i hi => ?_⟩
      rw [wayM_congr (by rw [h2 39 (by omega)]) (h2 40 (by omega)) (h2 41 (by omega)) (h2 42 (by omega)) (h2 43 (by omega))]
      exact a5 i hi
/-- what a play may change, on either side -/
def FrX (σ σ' : St) : Prop := (∀ k, k ≠ 13 → k ≠ 14 → k ≠ 15 → k ≠ 16 → k ≠ 17 → k ≠ 32 → σ' k = σ k) ∧ σ' 13 9 = σ 13 9
def FrM (τ τ' : St) : Prop := ∀ k, k < 50 ∨ 55 < k → τ' k = τ k
theorem FrX.rf (σ : St) : FrX σ σ := ⟨fun _ _ _ _ _ _ _ => rfl, rfl⟩
theorem FrM.rf (σ : St) : FrM σ σ := fun _ _ => rfl
theorem FrX.tr {a b c : St} (h : FrX a b) (g : FrX b c) : FrX a c := ⟨fun k h1 h2 h3 h4 h5 h6 => (g.1 k h1 h2 h3 h4 h5 h6).trans (h.1 k h1 h2 h3 h4 h5 h6), g.2.trans h.2⟩
theorem FrM.tr {a b c : St} (h : FrM a b) (g : FrM b c) : FrM a c := fun k hk => (g k hk).trans (h k hk)
theorem Rel.send (R : Rel σ τ v N U mi ar la lo wy now bk) {i u : Nat} (hi : i < N) (hs : σ 14 i = -1) (hm : mi i ≤ now) (hu : u < U) (hlo : lo u = false) (hbk : bk u ≤ now) :
    ∃ (σ' τ' : St) (bk' : Nat → Nat), f_X2_send (nI i) (nI u) (nI now) σ = some (0, σ') ∧ f_X5_wayOf (τ 45 (12 * v + u)) (nI (ar i)) τ = some (nI (wy u (ar i)), τ) ∧ f_X5_send (nI i) (nI u) (nI (wy u (ar i))) (nI now) τ = some (0, τ') ∧ Rel σ' τ' v N U mi ar la lo wy now bk' ∧ uns σ' N + 1 = uns σ N ∧ cnt (fun x => decide (now < bk' x)) 12 = cnt (fun x => decide (now < bk x)) 12 + 1 ∧ FrX σ σ' ∧ FrM τ τ' := by
  obtain ⟨F, ⟨hd1, hd2, hd3, hd4, hd5⟩, hB, hM, hn⟩ := R
  have F0 := F
  obtain ⟨⟨h60, h12, hv, c1, c2, c3, c4⟩, hcalls, hunits⟩ := F
  have hb := bnd_le (σ := σ) h60
  obtain ⟨⟨q1, q2, q3, q4, q5, q6, q7⟩, q8, q9, q10, q11⟩ := hcalls i hi
  obtain ⟨s, hs6, hst, hway⟩ : ∃ s, s < 6 ∧ τ 45 (12 * v + u) = nI s ∧ ∀ i, i < N → wy u (ar i) ≤ 446 ∧ σ (20 + u) (ar i) = nI (wy u (ar i)) ∧ wayM τ s (ar i) = nI (wy u (ar i)) := by
    rcases hunits u hu with ⟨a1, -⟩ | ⟨a1, a2, s, a3, a4, a5⟩
    · rw [hlo] at a1; cases a1
    · exact ⟨s, a3, a4, a5⟩
  obtain ⟨w1, w2, w3⟩ := hway i hi
  obtain ⟨w, hwe⟩ : ∃ w, w = wy u (ar i) := ⟨_, rfl⟩
  rw [← hwe] at w1 w2 w3 ⊢
  obtain ⟨σ', e1, x14, x15, x16, x32, x17, xo⟩ := send_X (σ := σ) (i := i) (u := u) (a := ar i) (w := w) (t := nI now) (by omega) (by omega) q9 q3 w2
  obtain ⟨τ', e2, m50, m52, m51, m53, m54, m55, mo⟩ := send_M (σ := τ) (i := i) (u := u) (w := w) (l := la i) (a := now) (by omega) (by omega) q7 (by omega) (by omega) (by omega)
  obtain ⟨b, hbe⟩ : ∃ b, b = now + 2 * w + la i := ⟨_, rfl⟩
  rw [← hbe] at m53 m54 m55
  have eb : nI now + nI w + σ 38 i + nI w = nI b := by
    rw [q6, nI_add, nI_add, nI_add, hbe]
    congr 1; omega
  rw [eb] at x32 x17
  rw [nI_add] at x16
  have hu1 : uns σ' N + 1 = uns σ N := by
    unfold uns
    refine cnt_off (i := i) ?_ ?_ ?_ N hi
    · simp [hs]
    · rw [x14, upd_s]
      simp [enc_some_ne (i := u) (by omega)]
    · intro j hj
      rw [x14, upd_n _ _ hj]
  have hul := uns_le (σ := σ) (N := N)
  have hbn : bnd σ' N = bnd σ N + 1000 := by unfold bnd; omega
  refine ⟨σ', τ', fun x => if x = u then b else bk x, e1, by rw [hst, wayOf_M hs6 q9, w3], e2, ⟨?_, ⟨?_, ?_, ?_, ?_, ?_⟩, ?_, ?_, ?_⟩, hu1, ?_, ⟨fun k h1 h2 h3 h4 h5 h6 => xo k h2 h3 h4 h6 h5, by rw [xo 13 (by decide) (by decide) (by decide) (by decide) (by decide)]⟩, fun k hk => mo k (by omega) (by omega) (by omega) (by omega) (by omega) (by omega)⟩
  · exact F0.keep (fun k hk => xo k (by omega) (by omega) (by omega) (by omega) (by omega)) (by rw [xo 13 (by decide) (by decide) (by decide) (by decide) (by decide)]) (fun k hk => mo k (by omega) (by omega) (by omega) (by omega) (by omega) (by omega))
  · intro j hj
    by_cases e : j = i
    · subst e
      rw [x14, m50, upd_s, upd_s, x15, m52, upd_s, upd_s, x16, m51, upd_s, upd_s]
      exact ⟨rfl, Or.inr ⟨⟨u, hu, rfl⟩, rfl, rfl, now + w, rfl, by omega, by omega⟩⟩
    · rw [x14, m50, upd_n _ _ e, upd_n _ _ e, x15, m52, upd_n _ _ e, upd_n _ _ e, x16, m51, upd_n _ _ e, upd_n _ _ e]
      obtain ⟨p1, p2⟩ := hd1 j hj
      refine ⟨p1, ?_⟩
      rcases p2 with p2 | ⟨p2, p3, p4, t, p5, p6, p7⟩
      · exact Or.inl p2
      · exact Or.inr ⟨p2, p3, p4, t, p5, p6, by omega⟩
  · intro x hx
    rw [x17, m54]
    by_cases e : x = u
    · subst e; rw [upd_s, upd_s, hd2 x hx]
    · rw [upd_n _ _ e, upd_n _ _ e]; exact hd2 x hx
  · intro x hx
    rw [x32, m53]
    by_cases e : x = u
    · subst e
      rw [upd_s, upd_s]
      show nI b = nI (if x = x then b else bk x) ∧ nI b = nI (if x = x then b else bk x) ∧ (if x = x then b else bk x) ≤ bnd σ' N
      rw [if_pos rfl]
      exact ⟨rfl, rfl, by omega⟩
    · rw [upd_n _ _ e, upd_n _ _ e]
      simp only [e, if_false]
      obtain ⟨p1, p2, p3⟩ := hd3 x hx
      exact ⟨p1, p2, by omega⟩
  · intro x hx hx2
    have e : x ≠ u := by omega
    simp only [e, if_false]
    exact hd4 x hx hx2
  · intro x hx hx2
    have e : x ≠ u := fun z => by rw [z, hlo] at hx2; cases hx2
    simp only [e, if_false]
    exact hd5 x hx hx2
  · intro m hm1 hm2
    rw [m55]
    unfold bsy
    have hold := hB m hm1 hm2
    by_cases q : m < b
    · rw [if_pos ⟨hm1, hm2, q, hm2⟩, hold, nI_1]
      congr 1
      refine (cnt_off (i := u) ?_ ?_ ?_ 12 (by omega)).symm ▸ rfl
      · simp [q]
      · simp; omega
      · intro j hj
        simp [hj]
    · rw [if_neg (fun z => q z.2.2.1), hold]
      congr 1
      refine cnt_congr 12 (fun x hx => ?_)
      by_cases e : x = u
      · subst e
        simp only [if_true]
        rw [decide_eq_false (by omega), decide_eq_false q]
      · simp [e]
  · show σ' 13 10 = _
    rw [xo 13 (by decide) (by decide) (by decide) (by decide) (by decide)]
    rw [show σ 13 10 = _ from hM]
    congr 1
    refine cnt_congr _ (fun m hm => ?_)
    unfold isM
    rw [m55]
    unfold bsy
    rw [if_neg (by omega)]
  · omega
  · refine (cnt_off (i := u) ?_ ?_ ?_ 12 (by omega)).symm
    · simp; omega
    · simp; omega
    · intro j hj
      simp [hj]
end ST
