theorem till_enc {nx : Option Nat} (h : ∀ t, nx = some t → t < 1000000) : (if (1440 : Int32) < encd 2147483647 nx then (1440 : Int32) else encd 2147483647 nx) = nI (till nx) := by
  cases nx with
  | none =>
    show (if (1440 : Int32) < nI 2147483647 then (1440 : Int32) else nI 2147483647) = nI 1440
    rw [if_pos]
    · rfl
    · show nI 1440 < nI 2147483647
      exact (nI_ltI (by omega) (by omega)).mpr (by omega)
  | some t =>
    have := h t rfl
    show (if nI 1440 < nI t then nI 1440 else nI t) = nI (min t 1440)
    by_cases q : 1440 < t
    · rw [if_pos ((nI_ltI (by omega) (by omega)).mpr q), show min t 1440 = 1440 by omega]
    · rw [if_neg (fun z => q ((nI_ltI (by omega) (by omega)).mp z)), show min t 1440 = t by omega]
theorem gap_enc {a b : Nat} (ha : a ≤ 1440) (hb : b < 1000000) : (if (0 : Int32) < nI a - nI b then nI a - nI b else (0 : Int32)) = nI (a - b) := by
  by_cases q : b ≤ a
  · rw [pk_sub q, show (0 : Int32) = nI 0 from rfl]
    by_cases z : 0 < a - b
    · rw [if_pos (show nI 0 < nI (a - b) from (nI_ltI (by omega) (by omega)).mpr z)]
    · rw [if_neg (show ¬ nI 0 < nI (a - b) from fun y => z ((nI_ltI (by omega) (by omega)).mp y)), show a - b = 0 by omega]
  · have h1 := pk_sneg (a := a) (b := b) (by omega) (by omega)
    rw [if_neg (fun z => Int32.lt_irrefl (Int32.lt_trans h1 z)), show a - b = 0 by omega]
    rfl
section LK
variable {v N U : Nat} {mi ar la : Nat → Nat} {lo : Nat → Bool} {wy : Nat → Nat → Nat}
theorem Dyn.keep {σ σ' τ : St} {bk : Nat → Nat} {B : Nat} (h : Dyn σ τ N U mi lo bk B) (hk : ∀ k, k ≠ 13 → σ' k = σ k) : Dyn σ' τ N U mi lo bk B := by
  obtain ⟨h1, h2, h3, h4, h5⟩ := h
  refine ⟨?_, ?_, ?_, h4, h5⟩
  · rw [hk 14 (by decide), hk 15 (by decide), hk 16 (by decide)]; exact h1
  · rw [hk 17 (by decide)]; exact h2
  · rw [hk 32 (by decide)]; exact h3
theorem Rel.turn {σ τ : St} {now e : Nat} {bk : Nat → Nat} (R : Rel σ τ v N U mi ar la lo wy now bk) (he : e ≤ 120) :
    ∃ (σ2 τ1 : St) (bk1 : Nat → Nat) (k : Nat) (nx : Option Nat), (∀ K n, f_X2_playOut_L4 K (n + 1) (nI now) (nI e) σ = f_X2_playOut_L4 K n (encd 2147483647 nx) (nI (e + 1)) σ2) ∧ (∀ b5 K n, f_X5_play_L105 (nI v) b5 K (n + (k + 1)) (nI now) τ = f_X5_play_L105 (nI v) b5 K n (encd 100000000 nx) τ1) ∧
      uns σ2 N + k = uns σ N ∧ Fix σ2 τ1 v N U mi ar la lo wy ∧ Dyn σ2 τ1 N U mi lo bk1 (bnd σ2 N) ∧ Bus τ1 now bk1 ∧ σ2 13 10 = nI (cnt (isM τ1 (many U lo)) (till nx)) ∧ FrX σ σ2 ∧ FrM τ τ1 ∧ cnt (fun x => decide (now < bk1 x)) 12 = cnt (fun x => decide (now < bk x)) 12 + k ∧
      (∀ t, nx = some t → now < t ∧ t ≤ bnd σ2 N ∧ (∀ i, i < N → now < mi i → t ≤ mi i) ∧ (∀ u, u < 12 → now < bk1 u → t ≤ bk1 u) ∧ ((∃ i, i < N ∧ mi i = t) ∨ ∃ u, u < 12 ∧ bk1 u = t)) := by
  have hul := uns_le (σ := σ) (N := N)
  have h60 := R.1.1.1
  obtain ⟨σ1, τ1, bk1, k, p1, p2, R1, hu, hc, p3, fx, fm⟩ := Rel.phase (uns σ N) σ τ bk 0 R rfl (by omega)
  have hn := R.2.2.2.2
  have hb := bnd_le (σ := σ) h60
  have hb1 := bnd_le (σ := σ1) h60
  have es : f_X2_sendUnits (nI now) σ = some (0, σ1) := p1 FU (by unfold FU; omega)
  obtain ⟨nx, n1, n2, n3, n4⟩ := R1.event
  have haf := R1.anyFree
  have hms := R1.missed (nx := nx) (fun h => (n3 h).2) (fun t h => ⟨(n4 t h).1, (n4 t h).2.2.2.1⟩)
  have hte := till_enc (nx := nx) (fun t h => by have := (n4 t h).2.1; omega)
  have htl : till nx ≤ 1440 := by
    unfold till
    cases nx with
    | none => exact Nat.le_refl _
    | some t => exact Nat.min_le_right _ _
  have hge := gap_enc (a := till nx) (b := now) htl (by omega)
  have hmi : σ1 13 10 = nI (cnt (isM τ1 (many U lo)) (min now 1440)) := R1.2.2.2.1
  have hm : ∀ b5 K n, f_X5_play_L105 (nI v) b5 K (n + (k + 1)) (nI now) τ = f_X5_play_L105 (nI v) b5 K n (encd 100000000 nx) τ1 := by
    intro b5 K n
    rw [show n + (k + 1) = (n + 1) + k by omega, p2, p3, n2]
    rfl
  have hstep : ∀ K n, f_X2_playOut_L4 K (n + 1) (nI now) (nI e) σ = (if cnt (fun u => !lo u && decide (bk1 u ≤ now)) U = 0 then f_X2_playOut_L4 K n (encd 2147483647 nx) (nI (e + 1)) (wf σ1 13 10 (σ1 13 10 + nI (till nx - now))) else f_X2_playOut_L4 K n (encd 2147483647 nx) (nI (e + 1)) σ1) := by
    intro K n
    rw [f_X2_playOut_L4, if_neg (show ¬ (121 : Int32) ≤ nI e from nI_ge (b := 121) (by omega) (by omega)), if_neg (ltNvr (by omega)), es]
    simp only [bd_d, n1, haf, lt_d, nI_s]
    by_cases hf : cnt (fun u => !lo u && decide (bk1 u ≤ now)) U = 0
    · rw [if_pos hf, if_pos hf, if_pos rfl, hte, hge]
    · rw [if_neg hf, if_neg hf, if_neg (by decide)]
  by_cases hf : cnt (fun u => !lo u && decide (bk1 u ≤ now)) U = 0
  · obtain ⟨σ2, h2⟩ : ∃ z, z = wf σ1 13 10 (σ1 13 10 + nI (till nx - now)) := ⟨_, rfl⟩
    have hk : ∀ k, k ≠ 13 → σ2 k = σ1 k := fun k hk => by rw [h2]; exact va_up_ne _ _ hk
    have h9 : σ2 13 9 = σ1 13 9 := by rw [h2]; show va_up σ1 13 _ 13 9 = _; rw [va_up_self, upd_n _ _ (by decide)]
    have h10 : σ2 13 10 = σ1 13 10 + nI (till nx - now) := by rw [h2]; show va_up σ1 13 _ 13 10 = _; rw [va_up_self, upd_s]
    have hu2 : uns σ2 N = uns σ1 N := by unfold uns; rw [hk 14 (by decide)]
    have hbn : bnd σ2 N = bnd σ1 N := by unfold bnd; rw [hu2]
    refine ⟨σ2, τ1, bk1, k, nx, fun K n => by rw [hstep K n, if_pos hf, h2], hm, by omega, R1.1.keep (fun k hk9 => hk k (by omega)) h9 (fun _ _ => rfl), by rw [hbn]; exact R1.2.1.keep hk, R1.2.2.1, ?_, fx.tr ⟨fun k a _ _ _ _ _ => hk k a, h9⟩, fm, hc, fun t h => by rw [hbn]; exact n4 t h⟩
    rw [h10, hmi, nI_add, hms, if_pos hf]
  · refine ⟨σ1, τ1, bk1, k, nx, fun K n => by rw [hstep K n, if_neg hf], hm, by omega, R1.1, R1.2.1, R1.2.2.1, ?_, fx, fm, hc, n4⟩
    rw [hmi, hms, if_neg hf, Nat.add_zero]
theorem lock : ∀ (g : Nat) (σ τ : St) (now : Nat) (bk : Nat → Nat) (e : Nat), Rel σ τ v N U mi ar la lo wy now bk → uns σ N + cnt (fun i => decide (now < mi i)) N + cnt (fun x => decide (now < bk x)) 12 ≤ g → e + g ≤ 120 →
    ∃ (σ' τ' : St) (bk' : Nat → Nat) (k0 : Nat), (∀ K n, g + 2 ≤ n → f_X2_playOut_L4 K n (nI now) (nI e) σ = K σ') ∧ (∀ b5 K n, f_X5_play_L105 (nI v) b5 K (n + k0) (nI now) τ = K τ') ∧ k0 ≤ uns σ N + g + 2 ∧ Fix σ' τ' v N U mi ar la lo wy ∧ Dyn σ' τ' N U mi lo bk' (bnd σ' N) ∧ σ' 13 10 = nI (cnt (isM τ' (many U lo)) 1440) ∧ FrX σ σ' ∧ FrM τ τ' := by
  intro g
  induction g with
  | zero =>
    intro σ τ now bk e R hg he
    obtain ⟨σ2, τ1, bk1, k, nx, s1, s2, s3, s4, s5, s6, s7, s8, s9, s10, s11⟩ := R.turn (e := e) (by omega)
    cases nx with
    | some t =>
      obtain ⟨t1, t2, t3, t4, t5⟩ := s11 t rfl
      exfalso
      rcases t5 with ⟨i, hi, hit⟩ | ⟨u, hu, hut⟩
      · have := cnt_pos (P := fun i => decide (now < mi i)) (j := i) (by simp; omega) N hi
        omega
      · have := cnt_pos (P := fun x => decide (now < bk1 x)) (j := u) (by simp; omega) 12 hu
        omega
    | none =>
      refine ⟨σ2, τ1, bk1, k + 2, fun K n hn => ?_, fun b5 K n => ?_, by omega, s4, s5, s7, s8, s9⟩
      · obtain ⟨n, rfl⟩ : ∃ m, n = m + 2 := ⟨n - 2, by omega⟩
        rw [s1 K (n + 1)]
        show f_X2_playOut_L4 K (n + 1) (nI 2147483647) (nI (e + 1)) σ2 = K σ2
        rw [f_X2_playOut_L4, nvr, if_pos (nI_le (Nat.le_refl 2147483647) (by omega))]
        split <;> rfl
      · rw [show n + (k + 2) = (n + 1) + (k + 1) by omega, s2]
        show f_X5_play_L105 (nI v) b5 K (n + 1) (nI 100000000) τ1 = K τ1
        rw [f_X5_play_L105, far, if_pos (nI_le (Nat.le_refl 100000000) (by omega))]
  | succ g ih =>
    intro σ τ now bk e R hg he
    obtain ⟨σ2, τ1, bk1, k, nx, s1, s2, s3, s4, s5, s6, s7, s8, s9, s10, s11⟩ := R.turn (e := e) (by omega)
    cases nx with
    | none =>
      refine ⟨σ2, τ1, bk1, k + 2, fun K n hn => ?_, fun b5 K n => ?_, by omega, s4, s5, s7, s8, s9⟩
      · obtain ⟨n, rfl⟩ : ∃ m, n = m + 2 := ⟨n - 2, by omega⟩
        rw [s1 K (n + 1)]
        show f_X2_playOut_L4 K (n + 1) (nI 2147483647) (nI (e + 1)) σ2 = K σ2
        rw [f_X2_playOut_L4, nvr, if_pos (nI_le (Nat.le_refl 2147483647) (by omega))]
        split <;> rfl
      · rw [show n + (k + 2) = (n + 1) + (k + 1) by omega, s2]
        show f_X5_play_L105 (nI v) b5 K (n + 1) (nI 100000000) τ1 = K τ1
        rw [f_X5_play_L105, far, if_pos (nI_le (Nat.le_refl 100000000) (by omega))]
    | some t =>
      obtain ⟨t1, t2, t3, t4, t5⟩ := s11 t rfl
      have R2 : Rel σ2 τ1 v N U mi ar la lo wy t bk1 := ⟨s4, s5, fun m h1 h2 => s6 m (by omega) h2, s7, t2⟩
      have m1 : cnt (fun i => decide (t < mi i)) N ≤ cnt (fun i => decide (now < mi i)) N := cnt_mono N (fun i _ h => by simp at h ⊢; omega)
      have m2 : cnt (fun x => decide (t < bk1 x)) 12 ≤ cnt (fun x => decide (now < bk1 x)) 12 := cnt_mono 12 (fun i _ h => by simp at h ⊢; omega)
      have m3 : cnt (fun i => decide (t < mi i)) N + cnt (fun x => decide (t < bk1 x)) 12 < cnt (fun i => decide (now < mi i)) N + cnt (fun x => decide (now < bk1 x)) 12 := by
        rcases t5 with ⟨i, hi, hit⟩ | ⟨u, hu, hut⟩
        · have := cnt_lt (P := fun i => decide (t < mi i)) (Q := fun i => decide (now < mi i)) (i := i) (by simp; omega) (by simp; omega) N hi (fun j _ h => by simp at h ⊢; omega)
          omega
        · have := cnt_lt (P := fun x => decide (t < bk1 x)) (Q := fun x => decide (now < bk1 x)) (i := u) (by simp; omega) (by simp; omega) 12 hu (fun j _ h => by simp at h ⊢; omega)
          omega
      obtain ⟨σ', τ', bk', k0, r1, r2, r3, r4, r5, r6, r7, r8⟩ := ih σ2 τ1 t bk1 (e + 1) R2 (by omega) (by omega)
      refine ⟨σ', τ', bk', k0 + (k + 1), fun K n hn => ?_, fun b5 K n => ?_, by omega, r4, r5, r6, s8.tr r7, s9.tr r8⟩
      · obtain ⟨n, rfl⟩ : ∃ m, n = m + 1 := ⟨n - 1, by omega⟩
        rw [s1 K n]
        exact r1 K n (by omega)
      · rw [← Nat.add_assoc, s2]
        exact r2 b5 K n
end LK
