def oth (f : Nat → Int32) (s b : Int32) (u : Nat) : Bool := !decide (nI u = b) && decide (f u = s)
theorem countOthers_X {σ : St} {U v : Nat} (s b : Int32) (hU : σ 7 1 = nI U) (h12 : U ≤ 12) (hv : v < 4) : f_X1_countOthers (nI v) s b σ = some (nI (cnt (oth (σ (9 + v)) s b) U), σ) := by
  unfold f_X1_countOthers
  refine loop_v (fun n j a => f_X1_countOthers_L6 (nI v) s b (fun y z => some (y, z)) n a (nI j) σ) (fun a => some (a, σ)) U (fun j => nI (cnt (oth (σ (9 + v)) s b) j)) ?_ ?_ FU 0 (Nat.zero_le _) (by unfold FU; omega)
  · intro n
    show f_X1_countOthers_L6 _ _ _ _ (n + 1) _ _ σ = _
    rw [f_X1_countOthers_L6, hU, if_pos (nI_le (Nat.le_refl _) (by omega))]
  · intro n j hj
    show f_X1_countOthers_L6 _ _ _ _ (n + 1) _ _ σ = f_X1_countOthers_L6 _ _ _ _ n _ _ σ
    have hc : (nI j).toNatClampNeg = j := nI_clamp (by omega)
    have hcv : (nI v).toNatClampNeg = v := nI_clamp (by omega)
    rw [f_X1_countOthers_L6, hU, if_neg (nI_ge hj (by omega)), cnt_s]
    simp only [ixb_nI hv (by decide), ixb_nI (show j < 12 by omega) (by decide), ck_d, rd, hc, hcv, lt_d, nI_s]
    by_cases h1 : nI j = b
    · have e : oth (σ (9 + v)) s b j = false := by simp [oth, h1]
      rw [if_pos h1, e]; rfl
    · rw [if_neg h1]
      by_cases h2 : σ (9 + v) j = s
      · have e : oth (σ (9 + v)) s b j = true := by simp [oth, h1, h2]
        rw [if_pos h2, e]; rfl
      · have e : oth (σ (9 + v)) s b j = false := by simp [oth, h2]
        rw [if_neg h2, e]; rfl
theorem at_M {τ : St} {U v : Nat} (s b : Int32) (hU : τ 39 10 = nI U) (h12 : U ≤ 12) (hv : v < 4) : f_X5_at (nI v) s b τ = some (nI (cnt (oth (fun u => τ 45 (12 * v + u)) s b) U), τ) := by
  unfold f_X5_at
  refine loop_v (fun n j a => f_X5_at_L6 (nI v) s b (fun y z => some (y, z)) n a (nI j) τ) (fun a => some (a, τ)) U (fun j => nI (cnt (oth (fun u => τ 45 (12 * v + u)) s b) j)) ?_ ?_ FU 0 (Nat.zero_le _) (by unfold FU; omega)
  · intro n
    show f_X5_at_L6 _ _ _ _ (n + 1) _ _ τ = _
    rw [f_X5_at_L6, hU, if_pos (nI_le (Nat.le_refl _) (by omega))]
  · intro n j hj
    show f_X5_at_L6 _ _ _ _ (n + 1) _ _ τ = f_X5_at_L6 _ _ _ _ n _ _ τ
    have hcv : (nI (12 * v + j)).toNatClampNeg = 12 * v + j := nI_clamp (by omega)
    rw [f_X5_at_L6, hU, if_neg (nI_ge hj (by omega)), cnt_s]
    simp only [i12, ixb_nI (show 12 * v + j < 48 by omega) (by decide), ck_d, rd, hcv, lt_d, nI_s, i0]
    by_cases h1 : nI j = b
    · have e : oth (fun u => τ 45 (12 * v + u)) s b j = false := by simp [oth, h1]
      rw [if_pos h1, e]; rfl
    · rw [if_neg h1]
      by_cases h2 : τ 45 (12 * v + j) = s
      · have e : oth (fun u => τ 45 (12 * v + u)) s b j = true := by simp [oth, h1, h2]
        rw [if_pos h2, e]; rfl
      · have e : oth (fun u => τ 45 (12 * v + u)) s b j = false := by simp [oth, h2]
        rw [if_neg h2, e]; rfl
theorem oth_congr {f g : Nat → Int32} {U : Nat} (s b : Int32) (h : ∀ u, u < U → f u = g u) : cnt (oth f s b) U = cnt (oth g s b) U := cnt_congr U (fun u hu => by unfold oth; rw [h u hu])
def fullB (g : Nat → Nat) (v : Nat) : Bool := decide (4 ≤ g v)
theorem hasRoom_X {σ : St} {U : Nat} (s : Int32) (g : Nat → Nat) (hg : ∀ v, v < 4 → f_X1_countOthers (nI v) s (-1) σ = some (nI (g v), σ) ∧ g v < 1000) : f_X1_hasRoomInAllVariants s σ = some (if cnt (fullB g) 4 = 0 then 1 else 0, σ) := by
  unfold f_X1_hasRoomInAllVariants
  refine (loop_e (fun n j => f_X1_hasRoomInAllVariants_L2 s (fun z => some ((0 : Int32), z)) (fun z => some ((1 : Int32), z)) n (nI j) σ) (some (1, σ)) (some (0, σ)) 4 (fullB g) ?_ ?_ FU 0 (Nat.zero_le _) (by unfold FU; omega) rfl).trans ?_
  · intro n
    show f_X1_hasRoomInAllVariants_L2 _ _ _ (n + 1) _ σ = _
    rw [f_X1_hasRoomInAllVariants_L2, if_pos (show (4 : Int32) ≤ nI 4 from nI_le (a := 4) (Nat.le_refl _) (by omega))]
  · intro n j hj
    show f_X1_hasRoomInAllVariants_L2 _ _ _ (n + 1) _ σ = _
    obtain ⟨h1, h2⟩ := hg j hj
    rw [f_X1_hasRoomInAllVariants_L2, if_neg (show ¬ (4 : Int32) ≤ nI j from nI_ge (b := 4) hj (by omega)), h1, bd_d]
    by_cases hf : 4 ≤ g j
    · rw [if_neg (show ¬ nI (g j) < (4 : Int32) from nI_nlt (b := 4) hf (by omega)), show fullB g j = true from decide_eq_true hf]; rfl
    · rw [if_pos (show nI (g j) < (4 : Int32) from nI_lt (b := 4) (by omega) (by omega)), show fullB g j = false from decide_eq_false hf, lt_d, nI_s]; rfl
  · split <;> rfl
theorem isFull_M {τ : St} (s : Int32) (g : Nat → Nat) (hg : ∀ v, v < 4 → f_X5_at (nI v) s (-1) τ = some (nI (g v), τ) ∧ g v < 1000) : f_X5_isFull s τ = some (if cnt (fullB g) 4 = 0 then 0 else 1, τ) := by
  unfold f_X5_isFull
  refine (loop_v (fun n j a => f_X5_isFull_L4 s (fun y z => ck (zob y) (some (y, z))) n a (nI j) τ) (fun a => ck (zob a) (some (a, τ))) 4 (fun j => if cnt (fullB g) j = 0 then 0 else 1) ?_ ?_ FU 0 (Nat.zero_le _) (by unfold FU; omega)).trans ?_
  · intro n
    show f_X5_isFull_L4 _ _ (n + 1) _ _ τ = _
    rw [f_X5_isFull_L4, if_pos (show (4 : Int32) ≤ nI 4 from nI_le (a := 4) (Nat.le_refl _) (by omega))]
  · intro n j hj
    show f_X5_isFull_L4 _ _ (n + 1) _ _ τ = f_X5_isFull_L4 _ _ n _ _ τ
    obtain ⟨h1, h2⟩ := hg j hj
    rw [f_X5_isFull_L4, if_neg (show ¬ (4 : Int32) ≤ nI j from nI_ge (b := 4) hj (by omega)), cnt_s]
    by_cases hz : cnt (fullB g) j = 0
    · simp only [hz, if_true, h1, bd_d, lt_d, nI_s]
      by_cases hf : 4 ≤ g j
      · rw [if_neg (show ¬ nI (g j) < (4 : Int32) from nI_nlt (b := 4) hf (by omega)), show fullB g j = true from decide_eq_true hf]; rfl
      · rw [if_pos (show nI (g j) < (4 : Int32) from nI_lt (b := 4) (by omega) (by omega)), show fullB g j = false from decide_eq_false hf]; rfl
    · rw [if_neg hz, if_neg (by decide), lt_d, nI_s, if_neg (by omega)]
  · show ck (zob (if cnt (fullB g) 4 = 0 then 0 else 1)) _ = _
    split
    · rfl
    · rfl
theorem addUnit_X {σ : St} {U : Nat} (s : Int32) (hU : σ 7 1 = nI U) (h12 : U < 12) : ∃ σ', f_X1_addUnit s σ = some (nI U, σ') ∧ (∀ v, v < 4 → σ' (9 + v) = upd (σ (9 + v)) U s) ∧ σ' 7 1 = nI (U + 1) ∧ ∀ k, k ≠ 7 → (k < 9 ∨ 13 ≤ k) → σ' k = σ k := by
  have hcU : (nI U).toNatClampNeg = U := nI_clamp (by omega)
  unfold f_X1_addUnit
  refine Exists.elim (loop_st (fun n j z => f_X1_addUnit_L2 s (fun z => lt (wf z 7 1 ((z 7 1) + (1 : Int32))) (fun z2 => some ((z 7 1), z2))) n (nI j) z) (fun z => lt (wf z 7 1 ((z 7 1) + (1 : Int32))) (fun z2 => some ((z 7 1), z2))) 4 (fun j z => (∀ v, v < j → z (9 + v) = upd (σ (9 + v)) U s) ∧ (∀ v, j ≤ v → v < 4 → z (9 + v) = σ (9 + v)) ∧ ∀ k, (k < 9 ∨ 13 ≤ k) → z k = σ k) ?_ ?_ FU 0 σ (Nat.zero_le _) (by unfold FU; omega) ⟨fun v h => absurd h (Nat.not_lt_zero v), fun _ _ _ => rfl, fun _ _ => rfl⟩) (fun z h => ⟨wf z 7 1 (nI (U + 1)), ?_, fun v hv => ?_, ?_, fun k h1 h2 => ?_⟩)
  · intro n z _
    show f_X1_addUnit_L2 _ _ (n + 1) _ z = _
    rw [f_X1_addUnit_L2, if_pos (show (4 : Int32) ≤ nI 4 from nI_le (a := 4) (Nat.le_refl _) (by omega))]
  · intro n j z hj ⟨z1, z2, z3⟩
    have hcj : (nI j).toNatClampNeg = j := nI_clamp (by omega)
    refine ⟨va_up z (9 + j) (upd (z (9 + j)) U s), ?_, fun v hv => ?_, fun v h1 h2 => ?_, fun k hk => ?_⟩
    · show f_X1_addUnit_L2 _ _ (n + 1) _ z = f_X1_addUnit_L2 _ _ n _ _
      rw [f_X1_addUnit_L2, if_neg (show ¬ (4 : Int32) ≤ nI j from nI_ge (b := 4) hj (by omega)), z3 7 (by omega), hU]
      simp only [ixb_nI hj (by decide), ixb_nI h12 (by decide), ck_d, wr, hcj, hcU, lt_d, nI_s]
    · by_cases e : v = j
      · subst e; rw [va_up_self, z2 v (by omega) hj]
      · rw [va_up_ne _ _ (by omega)]; exact z1 v (by omega)
    · rw [va_up_ne _ _ (by omega)]; exact z2 v (by omega) h2
    · rw [va_up_ne _ _ (by omega)]; exact z3 k hk
  · rw [show f_X1_addUnit_L2 s _ FU (0 : Int32) σ = _ from h.1, lt_d, h.2.2.2 7 (by omega), hU, nI_s]
  · rw [show wf z 7 1 (nI (U + 1)) (9 + v) = z (9 + v) from va_up_ne _ _ (by omega)]; exact h.2.1 v hv
  · simp [wf, va_up, upd]
  · rw [show wf z 7 1 (nI (U + 1)) k = z k from va_up_ne _ _ h1]; exact h.2.2.2 k h2
theorem addUnit_M {τ : St} {U : Nat} (s : Int32) (hU : τ 39 10 = nI U) (h12 : U < 12) : ∃ τ', f_X5_unit_L63 s (fun z => lt (wf z 39 10 ((z 39 10) + (1 : Int32))) (fun z2 => some (((z2 39 10) - (1 : Int32)), z2))) FU (0 : Int32) τ = some (nI U, τ') ∧ (∀ v, v < 4 → τ' 45 (12 * v + U) = s) ∧ (∀ v u, v < 4 → u < U → τ' 45 (12 * v + u) = τ 45 (12 * v + u)) ∧ τ' 39 10 = nI (U + 1) ∧ (∀ j, j ≠ 10 → τ' 39 j = τ 39 j) ∧ ∀ k, k ≠ 39 → k ≠ 45 → τ' k = τ k := by
  refine Exists.elim (loop_st (fun n j z => f_X5_unit_L63 s (fun z => lt (wf z 39 10 ((z 39 10) + (1 : Int32))) (fun z2 => some (((z2 39 10) - (1 : Int32)), z2))) n (nI j) z) (fun z => lt (wf z 39 10 ((z 39 10) + (1 : Int32))) (fun z2 => some (((z2 39 10) - (1 : Int32)), z2))) 4 (fun j z => (∀ v, v < j → z 45 (12 * v + U) = s) ∧ (∀ v u, v < 4 → u < U → z 45 (12 * v + u) = τ 45 (12 * v + u)) ∧ ∀ k, k ≠ 45 → z k = τ k) ?_ ?_ FU 0 τ (Nat.zero_le _) (by unfold FU; omega) ⟨fun v h => absurd h (Nat.not_lt_zero v), fun _ _ _ _ => rfl, fun _ _ => rfl⟩) (fun z h => ⟨wf z 39 10 (nI (U + 1)), ?_, fun v hv => ?_, fun v u hv hu => ?_, ?_, fun j hj => ?_, fun k h1 h2 => ?_⟩)
  · intro n z _
    show f_X5_unit_L63 _ _ (n + 1) _ z = _
    rw [f_X5_unit_L63, if_pos (show (4 : Int32) ≤ nI 4 from nI_le (a := 4) (Nat.le_refl _) (by omega))]
  · intro n j z hj ⟨z1, z2, z3⟩
    have hcv : (nI (12 * j + U)).toNatClampNeg = 12 * j + U := nI_clamp (by omega)
    refine ⟨va_up z 45 (upd (z 45) (12 * j + U) s), ?_, fun v hv => ?_, fun v u h1 h2 => ?_, fun k hk => ?_⟩
    · show f_X5_unit_L63 _ _ (n + 1) _ z = f_X5_unit_L63 _ _ n _ _
      rw [f_X5_unit_L63, if_neg (show ¬ (4 : Int32) ≤ nI j from nI_ge (b := 4) hj (by omega)), z3 39 (by omega), hU]
      simp only [i12, ixb_nI (show 12 * j + U < 48 by omega) (by decide), ck_d, wr, hcv, lt_d, nI_s]
    · rw [va_up_self]
      by_cases e : v = j
      · subst e; rw [upd_s]
      · rw [upd_n _ _ (by omega)]; exact z1 v (by omega)
    · rw [va_up_self, upd_n _ _ (by omega)]; exact z2 v u h1 h2
    · rw [va_up_ne _ _ hk]; exact z3 k hk
  · rw [show f_X5_unit_L63 s _ FU (0 : Int32) τ = _ from h.1, lt_d, h.2.2.2 39 (by omega), hU, nI_s]
    simp [wf, va_up, upd, nI_pred]
  · rw [show wf z 39 10 (nI (U + 1)) 45 = z 45 from va_up_ne _ _ (by omega)]; exact h.2.1 v hv
  · rw [show wf z 39 10 (nI (U + 1)) 45 = z 45 from va_up_ne _ _ (by omega)]; exact h.2.2.1 v u hv hu
  · simp [wf, va_up, upd]
  · have := h.2.2.2 39 (by omega)
    simp [wf, va_up, upd, hj, this]
  · rw [show wf z 39 10 (nI (U + 1)) k = z k from va_up_ne _ _ h1]; exact h.2.2.2 k h2
theorem op_unit (x : Int32) : Op ["java/lang/IllegalArgumentException", "java/lang/IllegalStateException", "java/lang/UnsupportedOperationException"] (f_X4_unit x) (f_X5_unit x) := by
  intro σ τ T
  have T0 := T
  obtain ⟨S, A, U, sx, sy, ax, ay, w, p, mk, st, N, c1, c2, r⟩ := T
  obtain ⟨⟨g1, g2, g3, g4, g5, g6⟩, ⟨x1, x2, x3, x4, x5, x6⟩, x7, x8, x9⟩ := c1
  obtain ⟨⟨y1, y2, y3, y4, y5⟩, y6, y7, y8⟩ := c2
  unfold f_X4_unit f_X5_unit
  rcases below_b x (n := S) (by omega) σ τ with ⟨e1, e2, j, hj, rfl⟩ | ⟨e1, e2⟩
  · obtain ⟨g, hg⟩ : ∃ g : Nat → Nat, g = fun v => cnt (oth (σ (9 + v)) (nI j) (-1)) U := ⟨_, rfl⟩
    have hg1 : ∀ v, v < 4 → f_X1_countOthers (nI v) (nI j) (-1) σ = some (nI (g v), σ) ∧ g v < 1000 := fun v hv => by
      rw [hg]
      exact ⟨countOthers_X (nI j) (-1) x3 g3 hv, by have := cnt_le (oth (σ (9 + v)) (nI j) (-1)) U; show cnt _ U < 1000; omega⟩
    have hg2 : ∀ v, v < 4 → f_X5_at (nI v) (nI j) (-1) τ = some (nI (g v), τ) ∧ g v < 1000 := fun v hv => by
      refine ⟨?_, (hg1 v hv).2⟩
      rw [at_M (nI j) (-1) y3 g3 hv, hg]
      rw [oth_congr (f := fun u => τ 45 (12 * v + u)) (g := σ (9 + v)) (nI j) (-1) (fun u hu => by rw [(x9 v u hv hu).1]; exact y8 v u hv hu)]
    have f1 := hasRoom_X (σ := σ) (U := U) (nI j) g hg1
    have f2 := isFull_M (τ := τ) (nI j) g hg2
    by_cases hf : cnt (fullB g) 4 = 0
    · rw [if_pos hf] at f1 f2
      by_cases hU : U = 12
      · subst hU
        have q1 : (12 : Int32) ≤ σ 7 1 := by rw [x3]; exact nI_le (Nat.le_refl _) (by omega)
        have q2 : τ 39 10 = (12 : Int32) := y3
        simp only [lt_d, x1, y1, e1, e2, bd_d, z10, if_true, if_false, kn_1, bx_l, f1, f2, sa_1, q1, q2, ro_0, bx_r, thr_3]
        exact T0.refused (i := 2) rfl rfl _
      · have q1 : ¬ (12 : Int32) ≤ σ 7 1 := by rw [x3]; exact nI_ge (b := 12) (by omega) (by omega)
        have q2 : ¬ τ 39 10 = (12 : Int32) := by rw [y3]; intro z; exact hU ((nI_eq (b := 12) (by omega) (by omega)).mp z)
        obtain ⟨σ', a1, a2, a3, a4⟩ := addUnit_X (nI j) x3 (by omega)
        obtain ⟨τ', b1, b2, b3, b4, b5, b6⟩ := addUnit_M (τ := wf τ 39 0 0) (U := U) (nI j) (by rw [wf0n _ _ (by decide)]; exact y3) (by omega)
        simp only [lt_d, x1, y1, e1, e2, bd_d, z10, if_true, if_false, kn_1, bx_l, f1, f2, sa_1, q1, q2, ro_1, thr_0, a1]
        simp only [lt_d] at b1
        rw [b1]
        refine ⟨_, _, _, _, rfl, rfl, ?_, fun k hk => a4 k (by omega) (by omega), fun k hk => by rw [b6 k (by omega) (by omega)]; exact wf0k τ 0 (by omega), Or.inl ⟨_, rfl, by rw [b5 0 (by decide), wf0], rfl⟩⟩
        have m39 : ∀ j, j ≠ 0 → j ≠ 10 → τ' 39 j = τ 39 j := fun j h1 h2 => by rw [b5 j h2, wf0n _ _ h1]
        have mo : ∀ k, k ≠ 39 → k ≠ 45 → τ' k = τ k := fun k h1 h2 => by rw [b6 k h1 h2]; exact wf0k τ 0 h1
        refine ⟨S, A, U + 1, sx, sy, ax, ay, w, p, mk, fun v u => if u = U then some j else st v u, N, ⟨⟨g1, g2, by omega, g4, g5, g6⟩, ⟨?_, ?_, a3, ?_, ?_, ?_⟩, ?_, ?_, fun v u hv hu => ?_⟩, ⟨⟨?_, ?_, b4, ?_, ?_⟩, ?_, ?_, fun v u hv hu => ?_⟩, r.keep (fun k hk => a4 k (by omega) (by omega)) (fun k h1 h2 => mo k (by omega) (by omega)) (m39 12 (by decide) (by decide)) (m39 23 (by decide) (by decide))⟩
        · rw [a4 1 (by decide) (by omega)]; exact x1
        · rw [a4 1 (by decide) (by omega)]; exact x2
        · rw [a4 0 (by decide) (by omega)]; exact x4
        · rw [a4 0 (by decide) (by omega)]; exact x5
        · rw [a4 1 (by decide) (by omega)]; exact x6
        · rw [a4 2 (by decide) (by omega), a4 3 (by decide) (by omega)]; exact x7
        · rw [a4 4 (by decide) (by omega), a4 5 (by decide) (by omega), a4 6 (by decide) (by omega)]; exact x8
        · rw [a2 v hv]
          by_cases e : u = U
          · subst e
            rw [upd_s]
            simp only [if_true]
            exact ⟨rfl, fun s hs => by cases hs; exact hj⟩
          · rw [upd_n _ _ e]
            simp only [e, if_false]
            exact x9 v u hv (by omega)
        · rw [m39 3 (by decide) (by decide)]; exact y1
        · rw [m39 6 (by decide) (by decide)]; exact y2
        · rw [m39 1 (by decide) (by decide)]; exact y4
        · rw [m39 2 (by decide) (by decide)]; exact y5
        · rw [mo 40 (by decide) (by decide), mo 41 (by decide) (by decide)]; exact y6
        · rw [mo 42 (by decide) (by decide), mo 43 (by decide) (by decide), mo 44 (by decide) (by decide)]; exact y7
        · by_cases e : u = U
          · subst e
            rw [b2 v hv]
            simp only [if_true]
            rfl
          · rw [b3 v u hv (by omega), wf0k τ 0 (by decide)]
            simp only [e, if_false]
            exact y8 v u hv (by omega)
    · rw [if_neg hf] at f1 f2
      simp only [lt_d, x1, y1, e1, e2, bd_d, z10, if_true, if_false, kn_1, bx_l, f1, f2, sa_0, bx_r, thr_2, ite_self]
      exact T0.refused (i := 1) rfl rfl _
  · simp only [lt_d, x1, y1, e1, e2, bd_d, z10, if_true, if_false, kn_0, bx_r, thr_1, ite_self]
    exact T0.refused (i := 0) rfl rfl _

theorem stn_b (x : Int32) {S : Nat} (hS : S ≤ 6) (σ τ : St) : (x = -1 ∧ f_X5_in x (-1) (nI S - 1) τ = some (1, τ)) ∨ (¬ x = -1 ∧ f_X4_isBelow x (nI S) σ = some (1, σ) ∧ f_X5_in x (-1) (nI S - 1) τ = some (1, τ) ∧ ∃ j, j < S ∧ x = nI j) ∨ (¬ x = -1 ∧ f_X4_isBelow x (nI S) σ = some (0, σ) ∧ f_X5_in x (-1) (nI S - 1) τ = some (0, τ)) := by
  have m1 : (-1 : Int32).toInt = -1 := by decide
  have hs1 : (nI S - 1).toInt = (S : Int) - 1 := by
    by_cases hz : S = 0
    · subst hz; decide
    · rw [show S = (S - 1) + 1 by omega, nI_pred, nI_toInt (by omega)]; omega
  by_cases h1 : x = -1
  · left
    refine ⟨h1, ?_⟩
    subst h1
    unfold f_X5_in
    rw [if_neg (by decide), if_neg]
    rw [Int32.lt_iff_toInt_lt, hs1, m1]
    omega
  · right
    rcases below_b x (n := S) (by omega) σ τ with ⟨e1, e2, j, hj, rfl⟩ | ⟨e1, e2⟩
    · left
      refine ⟨h1, e1, ?_, j, hj, rfl⟩
      unfold f_X5_in
      rw [if_neg, if_neg]
      · rw [Int32.lt_iff_toInt_lt, hs1, nI_toInt (by omega)]; omega
      · rw [Int32.lt_iff_toInt_lt, m1, nI_toInt (by omega)]; omega
    · right
      refine ⟨h1, e1, ?_⟩
      unfold f_X5_in at e2 ⊢
      have hx1 : x.toInt ≠ -1 := fun z => h1 (Int32.toInt_inj.mp (by rw [z, m1]))
      by_cases h0 : x < 0
      · rw [if_pos]
        rw [Int32.lt_iff_toInt_lt, Int32.toInt_zero] at h0
        rw [Int32.lt_iff_toInt_lt, m1]
        omega
      · rw [if_neg h0] at e2
        rw [if_neg]
        · exact e2
        · rw [Int32.lt_iff_toInt_lt, Int32.toInt_zero] at h0
          rw [Int32.lt_iff_toInt_lt, m1]
          omega
theorem mv_X (a b c : Int32) (σ : St) : bd (f_X1_move a b c σ) (fun (_ : Int32) (σ' : St) => some ((.inl (0 : Int32) : Ex), σ')) = ck (ixb a 4) (ck (ixb b 12) (some ((.inl (0 : Int32) : Ex), wr σ (9 + a.toNatClampNeg) b c))) := by
  unfold f_X1_move
  cases ixb a 4
  · rfl
  · cases ixb b 12 <;> rfl
theorem op_change (a b c : Int32) : Op ["java/lang/IllegalArgumentException", "java/lang/IllegalStateException"] (f_X4_change a b c) (f_X5_change a b c) := by
  intro σ τ T
  have T0 := T
  obtain ⟨S, A, U, sx, sy, ax, ay, w, p, mk, st, N, c1, c2, r⟩ := T
  obtain ⟨⟨g1, g2, g3, g4, g5, g6⟩, ⟨x1, x2, x3, x4, x5, x6⟩, x7, x8, x9⟩ := c1
  obtain ⟨⟨y1, y2, y3, y4, y5⟩, y6, y7, y8⟩ := c2
  unfold f_X4_change f_X5_change
  -- what is left where all is known and there is room
  have fin : ∀ (v u : Nat) (q : Option Nat), v < 4 → u < U → (∀ s, q = some s → s < S) → ∃ rx σ' rm τ', (ck (ixb (nI v) 4) (ck (ixb (nI u) 12) (some ((.inl (0 : Int32) : Ex), wr σ (9 + (nI v).toNatClampNeg) (nI u) (enc q))))) = some (rx, σ') ∧ (ck (ixb (((12 : Int32) * nI v) + nI u) 48) (some ((0 : Int32), wr (wf τ 39 0 0) 45 (((12 : Int32) * nI v) + nI u) (enc q)))) = some (rm, τ') ∧ Two σ' τ' ∧ FrA σ σ' ∧ FrB τ τ' ∧ Oc ["java/lang/IllegalArgumentException", "java/lang/IllegalStateException"] rx (τ' 39 0) rm := by
    intro v u q hv hu hq
    have hcv : (nI v).toNatClampNeg = v := nI_clamp (by omega)
    have hcu : (nI u).toNatClampNeg = u := nI_clamp (by omega)
    have hcw : (nI (12 * v + u)).toNatClampNeg = 12 * v + u := nI_clamp (by omega)
    simp only [i12, ixb_nI hv (by decide), ixb_nI (show u < 12 by omega) (by decide), ixb_nI (show 12 * v + u < 48 by omega) (by decide), ck_d, wr, hcv, hcu, hcw]
    obtain ⟨σ', hσ⟩ : ∃ z, z = va_up σ (9 + v) (upd (σ (9 + v)) u (enc q)) := ⟨_, rfl⟩
    obtain ⟨τ', hτ⟩ : ∃ z, z = va_up (wf τ 39 0 0) 45 (upd ((wf τ 39 0 0) 45) (12 * v + u) (enc q)) := ⟨_, rfl⟩
    have k1 : ∀ k, k ≠ 9 + v → σ' k = σ k := fun k hk => by rw [hσ]; exact va_up_ne _ _ hk
    have k2 : ∀ k, k ≠ 39 → k ≠ 45 → τ' k = τ k := fun k h1 h2 => by rw [hτ, va_up_ne _ _ h2]; exact wf0k τ 0 h1
    have k3 : ∀ j, j ≠ 0 → τ' 39 j = τ 39 j := fun j h1 => by rw [hτ, va_up_ne _ _ (by decide)]; exact wf0n τ 0 h1
    have k4 : τ' 39 0 = 0 := by rw [hτ, va_up_ne _ _ (by decide)]; exact wf0 τ 0
    rw [← hσ, ← hτ]
    refine ⟨_, _, _, _, rfl, rfl, ?_, fun k hk => k1 k (by omega), fun k hk => k2 k (by omega) (by omega), Or.inl ⟨_, rfl, k4, rfl⟩⟩
    refine ⟨S, A, U, sx, sy, ax, ay, w, p, mk, fun v' u' => if v' = v ∧ u' = u then q else st v' u', N, ⟨⟨g1, g2, g3, g4, g5, g6⟩, ⟨?_, ?_, ?_, ?_, ?_, ?_⟩, ?_, ?_, fun v' u' hv' hu' => ?_⟩, ⟨⟨?_, ?_, ?_, ?_, ?_⟩, ?_, ?_, fun v' u' hv' hu' => ?_⟩, r.keep (fun k hk => k1 k (by omega)) (fun k h1 h2 => k2 k (by omega) (by omega)) (k3 12 (by decide)) (k3 23 (by decide))⟩
    · rw [k1 1 (by omega)]; exact x1
    · rw [k1 1 (by omega)]; exact x2
    · rw [k1 7 (by omega)]; exact x3
    · rw [k1 0 (by omega)]; exact x4
    · rw [k1 0 (by omega)]; exact x5
    · rw [k1 1 (by omega)]; exact x6
    · rw [k1 2 (by omega), k1 3 (by omega)]; exact x7
    · rw [k1 4 (by omega), k1 5 (by omega), k1 6 (by omega)]; exact x8
    · by_cases e : v' = v ∧ u' = u
      · simp only [e, and_self, if_true]
        rw [hσ, va_up_self, upd_s]
        exact ⟨rfl, hq⟩
      · simp only [e, if_false]
        by_cases ev : v' = v
        · have eu : u' ≠ u := fun z => e ⟨ev, z⟩
          rw [ev, hσ, va_up_self, upd_n _ _ eu, ← ev]
          exact x9 v' u' hv' hu'
        · rw [k1 (9 + v') (by omega)]; exact x9 v' u' hv' hu'
    · rw [k3 3 (by decide)]; exact y1
    · rw [k3 6 (by decide)]; exact y2
    · rw [k3 10 (by decide)]; exact y3
    · rw [k3 1 (by decide)]; exact y4
    · rw [k3 2 (by decide)]; exact y5
    · rw [k2 40 (by decide) (by decide), k2 41 (by decide) (by decide)]; exact y6
    · rw [k2 42 (by decide) (by decide), k2 43 (by decide) (by decide), k2 44 (by decide) (by decide)]; exact y7
    · by_cases e : v' = v ∧ u' = u
      · simp only [e, and_self, if_true]
        rw [hτ, va_up_self, upd_s]
      · simp only [e, if_false]
        rw [hτ, va_up_self, upd_n _ _ (by omega), wf0k τ 0 (by decide)]
        exact y8 v' u' hv' hu'
  rcases within_b a 1 3 (l := 1) (h := 3) rfl rfl (by omega) (by omega) σ τ with ⟨e1, e2, v, hv1, hv2, rfl⟩ | ⟨e1, e2, -⟩
  · rcases below_b b (n := U) (by omega) σ τ with ⟨e3, e4, u, hu, rfl⟩ | ⟨e3, e4⟩
    · rcases stn_b c g1 σ τ with ⟨rfl, e5⟩ | ⟨hc, e5, e6, j, hj, rfl⟩ | ⟨hc, e5, e6⟩
      · have q1 : (-1 : Int32) < 0 := by decide
        simp only [lt_d, x1, x3, y1, y3, e1, e2, e3, e4, e5, bd_d, z10, if_true, if_false, kn_1, bx_l, sa_1, thr_0, q1, mv_X]
        exact fin v u none (by omega) hu (fun s hs => by cases hs)
      · have q1 : ¬ nI j < (0 : Int32) := nI_nneg (by omega)
        have f1 := countOthers_X (σ := σ) (v := v) (nI j) (nI u) x3 g3 (by omega)
        have f2 := at_M (τ := τ) (v := v) (nI j) (nI u) y3 g3 (by omega)
        rw [oth_congr (f := fun u => τ 45 (12 * v + u)) (g := σ (9 + v)) (nI j) (nI u) (fun u' hu' => by rw [(x9 v u' (by omega) hu').1]; exact y8 v u' (by omega) hu')] at f2
        obtain ⟨g, hg⟩ : ∃ g, g = cnt (oth (σ (9 + v)) (nI j) (nI u)) U := ⟨_, rfl⟩
        have hgl : g ≤ U := by rw [hg]; exact cnt_le _ _
        rw [← hg] at f1 f2
        by_cases hf : 4 ≤ g
        · have q2 : (4 : Int32) ≤ nI g := nI_le (a := 4) hf (by omega)
          have q3 : ¬ nI g < (4 : Int32) := nI_nlt (b := 4) hf (by omega)
          simp only [lt_d, x1, x3, y1, y3, e1, e2, e3, e4, e5, e6, bd_d, z10, if_true, if_false, kn_1, bx_l, hc, q1, f1, f2, q2, q3, sa_0, bx_r, thr_2]
          exact T0.refused (i := 1) rfl rfl _
        · have q2 : ¬ (4 : Int32) ≤ nI g := nI_ge (b := 4) (by omega) (by omega)
          have q3 : nI g < (4 : Int32) := nI_lt (b := 4) (by omega) (by omega)
          simp only [lt_d, x1, x3, y1, y3, e1, e2, e3, e4, e5, e6, bd_d, z10, if_true, if_false, kn_1, bx_l, hc, q1, f1, f2, q2, q3, sa_1, thr_0, mv_X]
          exact fin v u (some j) (by omega) hu (fun s hs => by cases hs; exact hj)
      · simp only [lt_d, x1, x3, y1, y3, e1, e2, e3, e4, e5, e6, bd_d, z10, if_true, if_false, kn_1, bx_l, hc, kn_0, bx_r, thr_1]
        exact T0.refused (i := 0) rfl rfl _
    · simp only [lt_d, x3, y3, e1, e2, e3, e4, bd_d, z10, if_true, if_false, kn_0, bx_r, thr_1]
      exact T0.refused (i := 0) rfl rfl _
  · simp only [lt_d, e1, e2, bd_d, z10, if_true, if_false, kn_0, bx_r, thr_1]
    exact T0.refused (i := 0) rfl rfl _
