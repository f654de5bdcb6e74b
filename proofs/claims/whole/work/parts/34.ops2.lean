def upN (f : Nat → Nat) (i x : Nat) : Nat → Nat := fun j => if j = i then x else f j
theorem upN_s (f : Nat → Nat) (i x : Nat) : upN f i x i = x := by simp [upN]
theorem upN_n (f : Nat → Nat) {i j : Nat} (x : Nat) (h : j ≠ i) : upN f i x j = f j := by simp [upN, h]
theorem addStation_X {σ : St} {S : Nat} (x y : Int32) (h : σ 1 5 = nI S) (hS : S < 6) : ∃ σ', f_X3_addStation x y σ = some (nI S, σ') ∧ σ' 2 = upd (σ 2) S x ∧ σ' 3 = upd (σ 3) S y ∧ σ' 1 = upd (σ 1) 5 (nI (S + 1)) ∧ ∀ k, k ≠ 1 → k ≠ 2 → k ≠ 3 → σ' k = σ k := by
  have hc : (nI S).toNatClampNeg = S := nI_clamp (by omega)
  unfold f_X3_addStation
  have e1 : (wr σ 2 (nI S) x) 1 = σ 1 := va_up_ne _ _ (by decide)
  have e2 : (wr (wr σ 2 (nI S) x) 3 (nI S) y) 1 = σ 1 := by rw [show wr (wr σ 2 (nI S) x) 3 (nI S) y 1 = (wr σ 2 (nI S) x) 1 from va_up_ne _ _ (by decide)]; exact e1
  simp only [h, ixb_nI hS (by decide), ck_d, lt_d, e1, e2, nI_s]
  refine ⟨_, rfl, ?_, ?_, ?_, fun k h1 h2 h3 => ?_⟩
  · simp [wr, wf, va_up, hc]
  · simp [wr, wf, va_up, hc]
  · simp [wr, wf, va_up]
  · simp [wr, wf, va_up, h1, h2, h3]
theorem op_station (x y : Int32) : Op ["java/lang/IndexOutOfBoundsException", "java/lang/UnsupportedOperationException"] (f_X4_station x y) (f_X5_station x y) := by
  intro σ τ T
  have T0 := T
  obtain ⟨S, A, U, sx, sy, ax, ay, w, p, mk, st, N, c1, c2, r⟩ := T
  obtain ⟨⟨g1, g2, g3, g4, g5, g6⟩, ⟨x1, x2, x3, x4, x5, x6⟩, x7, x8, x9⟩ := c1
  obtain ⟨⟨y1, y2, y3, y4, y5⟩, y6, y7, y8⟩ := c2
  unfold f_X4_station f_X5_station
  rcases place_b x y σ τ with ⟨e1, e2, a, b, ha, hb, rfl, rfl⟩ | ⟨e1, e2⟩
  · by_cases hS : S = 6
    · subst hS
      have q1 : (6 : Int32) ≤ σ 1 5 := by rw [x1]; exact nI_le (Nat.le_refl _) (by omega)
      have q2 : τ 39 3 = (6 : Int32) := y1
      simp only [lt_d, e1, e2, bd_d, z10, if_true, if_false, rg_1, bx_l, q1, q2, ro_0, bx_r, thr_2]
      exact T0.refused (i := 1) rfl rfl _
    · have q1 : ¬ (6 : Int32) ≤ σ 1 5 := by rw [x1]; exact nI_ge (b := 6) (by omega) (by omega)
      have q2 : ¬ τ 39 3 = (6 : Int32) := by rw [y1]; intro z; exact hS ((nI_eq (b := 6) (by omega) (by omega)).mp z)
      obtain ⟨σ', f1, f2, f3, f4, f5⟩ := addStation_X (nI a) (nI b) x1 (by omega)
      have hc : (nI S).toNatClampNeg = S := nI_clamp (by omega)
      obtain ⟨t1, ht1⟩ : ∃ z, z = wf τ 39 0 0 := ⟨_, rfl⟩
      have k0 : t1 39 3 = nI S := by rw [ht1, wf0n _ _ (by decide)]; exact y1
      have e4 : (wr t1 40 (nI S) (nI a)) 39 = t1 39 := va_up_ne _ _ (by decide)
      have e5 : (wr (wr t1 40 (nI S) (nI a)) 41 (nI S) (nI b)) 39 = t1 39 := by rw [show wr (wr t1 40 (nI S) (nI a)) 41 (nI S) (nI b) 39 = (wr t1 40 (nI S) (nI a)) 39 from va_up_ne _ _ (by decide)]; exact e4
      simp only [lt_d, e1, e2, bd_d, z10, if_true, if_false, rg_1, bx_l, q1, q2, ro_1, thr_0, ← ht1, k0, ixb_nI (show S < 6 by omega) (by decide), ck_d, e4, e5, nI_s, f1]
      obtain ⟨τ', hτ⟩ : ∃ z, z = wf (wr (wr t1 40 (nI S) (nI a)) 41 (nI S) (nI b)) 39 3 (nI (S + 1)) := ⟨_, rfl⟩
      have m40 : τ' 40 = upd (τ 40) S (nI a) := by rw [hτ, ht1]; simp [wf, wr, va_up, hc]
      have m41 : τ' 41 = upd (τ 41) S (nI b) := by rw [hτ, ht1]; simp [wf, wr, va_up, hc]
      have m39 : ∀ j, j ≠ 0 → j ≠ 3 → τ' 39 j = τ 39 j := fun j h1 h2 => by rw [hτ, ht1]; simp [wf, wr, va_up, upd, h1, h2]
      have m3 : τ' 39 3 = nI (S + 1) := by rw [hτ]; simp [wf, va_up, upd]
      have m0 : τ' 39 0 = 0 := by rw [hτ, ht1]; simp [wf, wr, va_up, upd]
      have mo : ∀ k, k ≠ 39 → k ≠ 40 → k ≠ 41 → τ' k = τ k := fun k h1 h2 h3 => by rw [hτ, ht1]; simp [wf, wr, va_up, h1, h2, h3]
      rw [← hτ, m3, nI_pred]
      refine ⟨_, _, _, _, rfl, rfl, ?_, fun k hk => f5 k (by omega) (by omega) (by omega), fun k hk => mo k (by omega) (by omega) (by omega), Or.inl ⟨_, rfl, m0, rfl⟩⟩
      refine ⟨S + 1, A, U, upN sx S a, upN sy S b, ax, ay, w, p, mk, st, N, ⟨⟨by omega, g2, g3, g4, g5, g6⟩, ⟨?_, ?_, ?_, ?_, ?_, ?_⟩, fun s hs => ?_, ?_, fun v u hv hu => ?_⟩, ⟨⟨?_, ?_, ?_, ?_, ?_⟩, fun s hs => ?_, ?_, ?_⟩, r.keep (fun k hk => f5 k (by omega) (by omega) (by omega)) (fun k h1 h2 => mo k (by omega) (by omega) (by omega)) (m39 12 (by decide) (by decide)) (m39 23 (by decide) (by decide))⟩
      · rw [f4, upd_s]
      · rw [f4, upd_n _ _ (by decide)]; exact x2
      · rw [f5 7 (by decide) (by decide) (by decide)]; exact x3
      · rw [f5 0 (by decide) (by decide) (by decide)]; exact x4
      · rw [f5 0 (by decide) (by decide) (by decide)]; exact x5
      · rw [f4, upd_n _ _ (by decide)]; exact x6
      · rw [f2, f3]
        by_cases e : s = S
        · subst e; rw [upd_s, upd_s, upN_s, upN_s]; exact ⟨rfl, rfl, ha, hb⟩
        · rw [upd_n _ _ e, upd_n _ _ e, upN_n _ _ e, upN_n _ _ e]; exact x7 s (by omega)
      · rw [f5 4 (by decide) (by decide) (by decide), f5 5 (by decide) (by decide) (by decide), f5 6 (by decide) (by decide) (by decide)]; exact x8
      · rw [f5 (9 + v) (by omega) (by omega) (by omega)]
        exact ⟨(x9 v u hv hu).1, fun s hs => by have := (x9 v u hv hu).2 s hs; omega⟩
      · exact m3
      · rw [m39 6 (by decide) (by decide)]; exact y2
      · rw [m39 10 (by decide) (by decide)]; exact y3
      · rw [m39 1 (by decide) (by decide)]; exact y4
      · rw [m39 2 (by decide) (by decide)]; exact y5
      · rw [m40, m41]
        by_cases e : s = S
        · subst e; rw [upd_s, upd_s, upN_s, upN_s]; exact ⟨rfl, rfl⟩
        · rw [upd_n _ _ e, upd_n _ _ e, upN_n _ _ e, upN_n _ _ e]; exact y6 s (by omega)
      · rw [mo 42 (by decide) (by decide) (by decide), mo 43 (by decide) (by decide) (by decide), mo 44 (by decide) (by decide) (by decide)]; exact y7
      · rw [mo 45 (by decide) (by decide) (by decide)]; exact y8
  · simp only [lt_d, e1, e2, bd_d, z10, if_true, if_false, rg_0, bx_r, thr_1, ite_self]
    exact T0.refused (i := 0) rfl rfl _
theorem addArea_X {σ : St} {A q : Nat} (x y : Int32) (w : Nat) (h : σ 1 6 = nI A) (hA : A < 10) (hq : σ 1 7 = nI q) : ∃ σ', f_X3_addArea x y (nI w) σ = some (nI A, σ') ∧ σ' 4 = upd (σ 4) A x ∧ σ' 5 = upd (σ 5) A y ∧ σ' 6 = upd (σ 6) A (nI w) ∧ σ' 1 6 = nI (A + 1) ∧ σ' 1 7 = nI (q + w) ∧ (∀ j, j ≠ 6 → j ≠ 7 → σ' 1 j = σ 1 j) ∧ ∀ k, k ≠ 1 → k ≠ 4 → k ≠ 5 → k ≠ 6 → σ' k = σ k := by
  have hc : (nI A).toNatClampNeg = A := nI_clamp (by omega)
  unfold f_X3_addArea
  have e1 : (wr σ 4 (nI A) x) 1 = σ 1 := va_up_ne _ _ (by decide)
  have e2 : (wr (wr σ 4 (nI A) x) 5 (nI A) y) 1 = σ 1 := by rw [show wr (wr σ 4 (nI A) x) 5 (nI A) y 1 = (wr σ 4 (nI A) x) 1 from va_up_ne _ _ (by decide)]; exact e1
  have e3 : (wr (wr (wr σ 4 (nI A) x) 5 (nI A) y) 6 (nI A) (nI w)) 1 = σ 1 := by rw [show wr (wr (wr σ 4 (nI A) x) 5 (nI A) y) 6 (nI A) (nI w) 1 = (wr (wr σ 4 (nI A) x) 5 (nI A) y) 1 from va_up_ne _ _ (by decide)]; exact e2
  obtain ⟨s3, hs3⟩ : ∃ z, z = wr (wr (wr σ 4 (nI A) x) 5 (nI A) y) 6 (nI A) (nI w) := ⟨_, rfl⟩
  rw [← hs3] at e3
  have e4 : (wf s3 1 7 (nI (q + w))) 1 6 = nI A := by show va_up s3 1 _ 1 6 = _; rw [va_up_self, upd_n _ _ (by decide), e3, h]
  simp only [h, ixb_nI hA (by decide), ck_d, lt_d, e1, e2, ← hs3, e3, hq, nI_add, e4, nI_s]
  refine ⟨_, rfl, ?_, ?_, ?_, ?_, ?_, fun j h1 h2 => ?_, fun k h1 h2 h3 h4 => ?_⟩
  · rw [hs3]; simp [wr, wf, va_up, hc]
  · rw [hs3]; simp [wr, wf, va_up, hc]
  · rw [hs3]; simp [wr, wf, va_up, hc]
  · simp [wf, va_up, upd]
  · simp [wf, va_up, upd]
  · rw [hs3]; simp [wr, wf, va_up, upd, h1, h2]
  · rw [hs3]; simp [wr, wf, va_up, h1, h2, h3, h4]
theorem op_area (x y z : Int32) : Op ["java/lang/IndexOutOfBoundsException", "java/lang/UnsupportedOperationException"] (f_X4_area x y z) (f_X5_area x y z) := by
  intro σ τ T
  have T0 := T
  obtain ⟨S, A, U, sx, sy, ax, ay, w, p, mk, st, N, c1, c2, r⟩ := T
  obtain ⟨⟨g1, g2, g3, g4, g5, g6⟩, ⟨x1, x2, x3, x4, x5, x6⟩, x7, x8, x9⟩ := c1
  obtain ⟨⟨y1, y2, y3, y4, y5⟩, y6, y7, y8⟩ := c2
  unfold f_X4_area f_X5_area
  rcases place_b x y σ τ with ⟨e1, e2, a, b, ha, hb, rfl, rfl⟩ | ⟨e1, e2⟩
  · rcases within_b z 1 50 (l := 1) (h := 50) rfl rfl (by omega) (by omega) σ τ with ⟨e3, e4, c, hc1, hc2, rfl⟩ | ⟨e3, e4, -⟩
    · by_cases hA : A = 10
      · subst hA
        have q1 : (10 : Int32) ≤ σ 1 6 := by rw [x2]; exact nI_le (Nat.le_refl _) (by omega)
        have q2 : τ 39 6 = (10 : Int32) := y2
        simp only [lt_d, e1, e2, e3, e4, bd_d, z10, if_true, if_false, rg_1, bx_l, q1, q2, ro_0, bx_r, thr_2]
        exact T0.refused (i := 1) rfl rfl _
      · have q1 : ¬ (10 : Int32) ≤ σ 1 6 := by rw [x2]; exact nI_ge (b := 10) (by omega) (by omega)
        have q2 : ¬ τ 39 6 = (10 : Int32) := by rw [y2]; intro z; exact hA ((nI_eq (b := 10) (by omega) (by omega)).mp z)
        obtain ⟨σ', f1, f4, f5, f6, f16, f17, f1o, fo⟩ := addArea_X (nI a) (nI b) c x2 (by omega) x6
        have hc : (nI A).toNatClampNeg = A := nI_clamp (by omega)
        obtain ⟨t1, ht1⟩ : ∃ z, z = wf τ 39 0 0 := ⟨_, rfl⟩
        have k0 : t1 39 6 = nI A := by rw [ht1, wf0n _ _ (by decide)]; exact y2
        obtain ⟨t2, ht2⟩ : ∃ z, z = wr t1 42 (nI A) (nI a) := ⟨_, rfl⟩
        obtain ⟨t3, ht3⟩ : ∃ z, z = wr t2 43 (nI A) (nI b) := ⟨_, rfl⟩
        obtain ⟨t4, ht4⟩ : ∃ z, z = wr t3 44 (nI A) (nI c) := ⟨_, rfl⟩
        have k2 : t2 39 6 = nI A := by rw [ht2, show wr t1 42 (nI A) (nI a) 39 = t1 39 from va_up_ne _ _ (by decide)]; exact k0
        have k3 : t3 39 6 = nI A := by rw [ht3, show wr t2 43 (nI A) (nI b) 39 = t2 39 from va_up_ne _ _ (by decide)]; exact k2
        have k4 : t4 39 6 = nI A := by rw [ht4, show wr t3 44 (nI A) (nI c) 39 = t3 39 from va_up_ne _ _ (by decide)]; exact k3
        simp only [lt_d, e1, e2, e3, e4, bd_d, z10, if_true, if_false, rg_1, bx_l, q1, q2, ro_1, thr_0, ← ht1, k0, ixb_nI (show A < 10 by omega) (by decide), ck_d, ← ht2, k2, ← ht3, k3, ← ht4, k4, nI_s, f1]
        obtain ⟨τ', hτ⟩ : ∃ z, z = wf t4 39 6 (nI (A + 1)) := ⟨_, rfl⟩
        have m42 : τ' 42 = upd (τ 42) A (nI a) := by rw [hτ, ht4, ht3, ht2, ht1]; simp [wf, wr, va_up, hc]
        have m43 : τ' 43 = upd (τ 43) A (nI b) := by rw [hτ, ht4, ht3, ht2, ht1]; simp [wf, wr, va_up, hc]
        have m44 : τ' 44 = upd (τ 44) A (nI c) := by rw [hτ, ht4, ht3, ht2, ht1]; simp [wf, wr, va_up, hc]
        have m39 : ∀ j, j ≠ 0 → j ≠ 6 → τ' 39 j = τ 39 j := fun j h1 h2 => by rw [hτ, ht4, ht3, ht2, ht1]; simp [wf, wr, va_up, upd, h1, h2]
        have m6 : τ' 39 6 = nI (A + 1) := by rw [hτ]; simp [wf, va_up, upd]
        have m0 : τ' 39 0 = 0 := by rw [hτ, ht4, ht3, ht2, ht1]; simp [wf, wr, va_up, upd]
        have mo : ∀ k, k ≠ 39 → k ≠ 42 → k ≠ 43 → k ≠ 44 → τ' k = τ k := fun k h1 h2 h3 h4 => by rw [hτ, ht4, ht3, ht2, ht1]; simp [wf, wr, va_up, h1, h2, h3, h4]
        rw [← hτ, m6, nI_pred]
        refine ⟨_, _, _, _, rfl, rfl, ?_, fun k hk => fo k (by omega) (by omega) (by omega) (by omega), fun k hk => mo k (by omega) (by omega) (by omega) (by omega), Or.inl ⟨_, rfl, m0, rfl⟩⟩
        have hps : ∀ n, n ≤ A → psum (upN w A c) n = psum w n := by
          intro n
          induction n with
          | zero => intro _; rfl
          | succ n ih =>
            intro hn
            show psum (upN w A c) n + upN w A c n = psum w n + w n
            rw [ih (by omega), upN_n _ _ (by omega)]
        refine ⟨S, A + 1, U, sx, sy, upN ax A a, upN ay A b, upN w A c, p, mk, st, N, ⟨⟨g1, by omega, g3, g4, g5, g6⟩, ⟨?_, f16, ?_, ?_, ?_, ?_⟩, ?_, fun s hs => ?_, fun v u hv hu => ?_⟩, ⟨⟨?_, m6, ?_, ?_, ?_⟩, ?_, fun s hs => ?_, ?_⟩, r.keep (fun k hk => fo k (by omega) (by omega) (by omega) (by omega)) (fun k h1 h2 => mo k (by omega) (by omega) (by omega) (by omega)) (m39 12 (by decide) (by decide)) (m39 23 (by decide) (by decide))⟩
        · rw [f1o 5 (by decide) (by decide)]; exact x1
        · rw [fo 7 (by decide) (by decide) (by decide) (by decide)]; exact x3
        · rw [fo 0 (by decide) (by decide) (by decide) (by decide)]; exact x4
        · rw [fo 0 (by decide) (by decide) (by decide) (by decide)]; exact x5
        · rw [f17]
          show nI (psum w A + c) = nI (psum (upN w A c) A + upN w A c A)
          rw [hps A (Nat.le_refl _), upN_s]
        · rw [fo 2 (by decide) (by decide) (by decide) (by decide), fo 3 (by decide) (by decide) (by decide) (by decide)]; exact x7
        · rw [f4, f5, f6]
          by_cases e : s = A
          · subst e; rw [upd_s, upd_s, upd_s, upN_s, upN_s, upN_s]; exact ⟨rfl, rfl, rfl, ha, hb, hc1, hc2⟩
          · rw [upd_n _ _ e, upd_n _ _ e, upd_n _ _ e, upN_n _ _ e, upN_n _ _ e, upN_n _ _ e]; exact x8 s (by omega)
        · rw [fo (9 + v) (by omega) (by omega) (by omega) (by omega)]; exact x9 v u hv hu
        · rw [m39 3 (by decide) (by decide)]; exact y1
        · rw [m39 10 (by decide) (by decide)]; exact y3
        · rw [m39 1 (by decide) (by decide)]; exact y4
        · rw [m39 2 (by decide) (by decide)]; exact y5
        · rw [mo 40 (by decide) (by decide) (by decide) (by decide), mo 41 (by decide) (by decide) (by decide) (by decide)]; exact y6
        · rw [m42, m43, m44]
          by_cases e : s = A
          · subst e; rw [upd_s, upd_s, upd_s, upN_s, upN_s, upN_s]; exact ⟨rfl, rfl, rfl⟩
          · rw [upd_n _ _ e, upd_n _ _ e, upd_n _ _ e, upN_n _ _ e, upN_n _ _ e, upN_n _ _ e]; exact y7 s (by omega)
        · rw [mo 45 (by decide) (by decide) (by decide) (by decide)]; exact y8
    · simp only [lt_d, e1, e2, e3, e4, bd_d, z10, if_true, if_false, rg_0, bx_r, thr_1, ite_self]
      exact T0.refused (i := 0) rfl rfl _
  · simp only [lt_d, e1, e2, bd_d, z10, if_true, if_false, rg_0, bx_r, thr_1, ite_self]
    exact T0.refused (i := 0) rfl rfl _
