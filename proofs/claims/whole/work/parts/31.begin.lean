/-! towns and fleets on either side; the start of a run -/
def dst (a b : Nat) : Nat := if a ≤ b then b - a else a - b
def wyN (x y a b p : Nat) : Nat := ((dst x a + dst y b) * p + 3) / 4
theorem absM_n {a b : Nat} (ha : a < 100) (hb : b < 100) : absM (nI a - nI b) = nI (dst a b) := by
  unfold absM dst
  by_cases h : b ≤ a
  · rw [pk_sub h, if_pos (nI_pos' (by omega))]
    by_cases e : a ≤ b
    · rw [if_pos e, show a - b = b - a by omega]
    · rw [if_neg e]
  · rw [if_neg (Int32.not_le.mpr (pk_sneg (by omega) (by omega))), if_pos (show a ≤ b by omega), ← pk_sub (show a ≤ b by omega)]
    exact Int32.neg_sub
theorem abs_X (x : Int32) : (if 0 ≤ x then x else 0 - x) = absM x := by
  unfold absM
  rw [Int32.zero_sub]
theorem way_n {x y a b p : Nat} (hx : x < 100) (hy : y < 100) (ha : a < 100) (hb : b < 100) (hp : p ≤ 9) : ((absM (nI x - nI a) + absM (nI y - nI b)) * nI p + (3 : Int32)) / (4 : Int32) = nI (wyN x y a b p) ∧ wyN x y a b p ≤ 446 := by
  have h1 : dst x a ≤ 99 := by unfold dst; split <;> omega
  have h2 : dst y b ≤ 99 := by unfold dst; split <;> omega
  have h3 : (dst x a + dst y b) * p ≤ 198 * 9 := Nat.mul_le_mul (by omega) hp
  rw [absM_n hx ha, absM_n hy hb, nI_add, pk_mul, show (3 : Int32) = nI 3 from rfl, nI_add, show (4 : Int32) = nI 4 from rfl, pk_div (by omega) (by omega) (by omega)]
  exact ⟨rfl, by unfold wyN; omega⟩
def CfX (σ : St) (S A U : Nat) (sx sy ax ay w : Nat → Nat) (p mk : Nat) (st : Nat → Nat → Option Nat) : Prop :=
  (S ≤ 6 ∧ A ≤ 10 ∧ U ≤ 12 ∧ 1 ≤ p ∧ p ≤ 9 ∧ mk ≤ 1000) ∧ (σ 1 5 = nI S ∧ σ 1 6 = nI A ∧ σ 7 1 = nI U ∧ σ 0 3 = nI p ∧ σ 0 4 = nI mk ∧ σ 1 7 = nI (psum w A)) ∧
  (∀ s, s < S → σ 2 s = nI (sx s) ∧ σ 3 s = nI (sy s) ∧ sx s < 100 ∧ sy s < 100) ∧
  (∀ a, a < A → σ 4 a = nI (ax a) ∧ σ 5 a = nI (ay a) ∧ σ 6 a = nI (w a) ∧ ax a < 100 ∧ ay a < 100 ∧ 1 ≤ w a ∧ w a ≤ 50) ∧
  ∀ v u, v < 4 → u < U → σ (9 + v) u = enc (st v u) ∧ ∀ s, st v u = some s → s < S
def CfM (τ : St) (S A U : Nat) (sx sy ax ay w : Nat → Nat) (p mk : Nat) (st : Nat → Nat → Option Nat) : Prop :=
  (τ 39 3 = nI S ∧ τ 39 6 = nI A ∧ τ 39 10 = nI U ∧ τ 39 1 = nI p ∧ τ 39 2 = nI mk) ∧
  (∀ s, s < S → τ 40 s = nI (sx s) ∧ τ 41 s = nI (sy s)) ∧
  (∀ a, a < A → τ 42 a = nI (ax a) ∧ τ 43 a = nI (ay a) ∧ τ 44 a = nI (w a)) ∧
  ∀ v u, v < 4 → u < U → τ 45 (12 * v + u) = enc (st v u)
section CF
variable {σ τ : St} {S A U : Nat} {sx sy ax ay w : Nat → Nat} {p mk : Nat} {st : Nat → Nat → Option Nat}
theorem CfX.keep {σ' : St} (C : CfX σ S A U sx sy ax ay w p mk st) (h : ∀ k, k < 13 → σ' k = σ k) : CfX σ' S A U sx sy ax ay w p mk st := by
  obtain ⟨h1, h2, h3, h4, h5⟩ := C
  refine ⟨h1, ?_, ?_, ?_, fun v u hv hu => ?_⟩
  · rw [h 0 (by omega), h 1 (by omega), h 7 (by omega)]; exact h2
  · rw [h 2 (by omega), h 3 (by omega)]; exact h3
  · rw [h 4 (by omega), h 5 (by omega), h 6 (by omega)]; exact h4
  · rw [h (9 + v) (by omega)]; exact h5 v u hv hu
theorem CfM.keep {τ' : St} (C : CfM τ S A U sx sy ax ay w p mk st) (h : ∀ k, 39 < k → k < 46 → τ' k = τ k) (h39 : ∀ j, j ≠ 0 → j ≠ 12 → j ≠ 23 → τ' 39 j = τ 39 j) : CfM τ' S A U sx sy ax ay w p mk st := by
  obtain ⟨h1, h2, h3, h4⟩ := C
  refine ⟨?_, ?_, ?_, fun v u hv hu => ?_⟩
  · rw [h39 3 (by decide) (by decide) (by decide), h39 6 (by decide) (by decide) (by decide), h39 10 (by decide) (by decide) (by decide), h39 1 (by decide) (by decide) (by decide), h39 2 (by decide) (by decide) (by decide)]; exact h1
  · rw [h 40 (by omega) (by omega), h 41 (by omega) (by omega)]; exact h2
  · rw [h 42 (by omega) (by omega), h 43 (by omega) (by omega), h 44 (by omega) (by omega)]; exact h3
  · rw [h 45 (by omega) (by omega)]; exact h4 v u hv hu
theorem wayMin_X (C : CfX σ S A U sx sy ax ay w p mk st) {s a : Nat} (hs : s < S) (ha : a < A) : f_X3_wayMinutes (nI s) (nI a) (nI p) σ = some (nI (wyN (sx s) (sy s) (ax a) (ay a) p), σ) := by
  obtain ⟨⟨g1, g2, g3, g4, g5, g6⟩, h2, h3, h4, h5⟩ := C
  obtain ⟨a1, a2, a3, a4⟩ := h3 s hs
  obtain ⟨b1, b2, b3, b4, b5, -⟩ := h4 a ha
  have e1 : (nI s).toNatClampNeg = s := nI_clamp (by omega)
  have e2 : (nI a).toNatClampNeg = a := nI_clamp (by omega)
  unfold f_X3_wayMinutes
  simp only [ixb_nI (show s < 6 by omega) (by decide), ixb_nI (show a < 10 by omega) (by decide), ck_d, rd, e1, e2, a1, a2, b1, b2, abs_X, lt_d]
  rw [(way_n a3 a4 b4 b5 g5).1]
theorem post_X (C : CfX σ S A U sx sy ax ay w p mk st) {u : Nat} (hu : u < 12) (q : Option Nat) (hq : ∀ s, q = some s → s < S) :
    ∃ σ', f_X2_post (nI u) (enc q) (nI p) σ = some (0, σ') ∧ σ' 18 = upd (σ 18) u (if q.isNone then 1 else 0) ∧ (∀ s, q = some s → ∀ a, a < A → σ' (20 + u) a = nI (wyN (sx s) (sy s) (ax a) (ay a) p)) ∧ ∀ k, k ≠ 18 → k ≠ 20 + u → σ' k = σ k := by
  have hA := C.1.2.1
  have c16 := C.2.1.2.1
  have hcu : (nI u).toNatClampNeg = u := nI_clamp (by omega)
  unfold f_X2_post
  cases q with
  | none =>
    have hen : enc none = (-1 : Int32) := rfl
    rw [if_pos hen, ixb_nI hu (by decide), ck_d, lt_d]
    simp only [wr, hcu]
    refine ⟨va_up σ 18 (upd (σ 18) u 1), ?_, ?_, fun s hs => (by cases hs), fun k k1 k2 => va_up_ne _ _ k1⟩
    · have : FU = 999999 + 1 := rfl
      rw [this, f_X2_post_L19]
      rw [show vp_nar .boolean (1 : Int32) = 1 from rfl]
      split
      · rfl
      · rfl
    · rw [va_up_self]; rfl
  | some s =>
    have hs := hq s rfl
    have hne : ¬ enc (some s) = (-1 : Int32) := enc_some_ne (by have := C.1.1; omega)
    rw [if_neg hne, ixb_nI hu (by decide), ck_d, lt_d]
    simp only [wr, hcu]
    rw [show vp_nar .boolean (0 : Int32) = 0 from rfl]
    refine Exists.elim (loop_st (fun n j z => f_X2_post_L19 (nI u) (enc (some s)) (nI p) (fun z => some ((0 : Int32), z)) n (nI j) z) (fun z => some ((0 : Int32), z)) A (fun j z => z 18 = upd (σ 18) u 0 ∧ (∀ a, a < j → z (20 + u) a = nI (wyN (sx s) (sy s) (ax a) (ay a) p)) ∧ ∀ k, k ≠ 18 → k ≠ 20 + u → z k = σ k) ?_ ?_ FU 0 (va_up σ 18 (upd (σ 18) u 0)) (Nat.zero_le _) (by unfold FU; omega) ⟨va_up_self _ _ _, fun a ha => absurd ha (Nat.not_lt_zero a), fun k k1 k2 => va_up_ne _ _ k1⟩) (fun σ' h => ⟨σ', h.1, h.2.1, fun s' hs' a ha => by cases hs'; exact h.2.2.1 a ha, h.2.2.2⟩)
    · intro n z hz
      show f_X2_post_L19 _ _ _ _ (n + 1) _ z = _
      rw [f_X2_post_L19, hz.2.2 1 (by omega) (by omega), c16, if_pos (nI_le (Nat.le_refl _) (by omega))]
    · intro n j z hj ⟨z1, z2, z3⟩
      have hcj : (nI j).toNatClampNeg = j := nI_clamp (by omega)
      have C' : CfX z S A U sx sy ax ay w p mk st := C.keep (fun k hk => z3 k (by omega) (by omega))
      refine ⟨va_up z (20 + u) (upd (z (20 + u)) j (nI (wyN (sx s) (sy s) (ax j) (ay j) p))), ?_, ?_, ?_, ?_⟩
      · show f_X2_post_L19 _ _ _ _ (n + 1) _ z = f_X2_post_L19 _ _ _ _ n _ _
        rw [f_X2_post_L19, z3 1 (by omega) (by omega), c16, if_neg (nI_ge hj (by omega)), if_neg hne, ixb_nI hu (by decide), ck_d]
        show bd (f_X3_wayMinutes (nI s) (nI j) (nI p) z) _ = _
        rw [wayMin_X C' hs hj, bd_d, ixb_nI (show j < 10 by omega) (by decide), ck_d, lt_d]
        simp only [wr, hcu, hcj, lt_d, nI_s]
      · rw [va_up_ne _ _ (by omega)]; exact z1
      · intro a ha
        rw [va_up_self]
        by_cases e : a = j
        · subst e; rw [upd_s]
        · rw [upd_n _ _ e]; exact z2 a (by omega)
      · intro k k1 k2
        rw [va_up_ne _ _ k2]; exact z3 k k1 k2
theorem begin_X (C : CfX σ S A U sx sy ax ay w p mk st) {v : Nat} (hv : v < 4) :
    ∃ σ', f_X2_begin (nI v) (nI p) σ = some (0, σ') ∧ σ' 13 9 = nI U ∧ σ' 13 10 = 0 ∧ (∀ u, u < 12 → σ' 32 u = 0 ∧ σ' 17 u = 0) ∧ (∀ u, u < U → σ' 18 u = (if (st v u).isNone then 1 else 0) ∧ ∀ s, st v u = some s → ∀ a, a < A → σ' (20 + u) a = nI (wyN (sx s) (sy s) (ax a) (ay a) p)) ∧ (∀ i, i < 60 → σ' 14 i = -1) ∧ ∀ k, k < 13 ∨ 32 < k → σ' k = σ k := by
  have hU := C.1.2.2.1
  have c71 := C.2.1.2.2.1
  have hcv : (nI v).toNatClampNeg = v := nI_clamp (by omega)
  unfold f_X2_begin
  rw [lt_d, lt_d]
  obtain ⟨s0, hs0⟩ : ∃ z, z = wf (wf σ 13 9 (σ 7 1)) 13 10 (0 : Int32) := ⟨_, rfl⟩
  rw [← hs0]
  have b1 : s0 13 9 = nI U := by rw [hs0]; simp [wf, va_up, upd, c71]
  have b2 : s0 13 10 = 0 := by rw [hs0]; simp [wf, va_up, upd]
  have b3 : ∀ k, k ≠ 13 → s0 k = σ k := fun k hk => by rw [hs0]; simp [wf, va_up, hk]
  -- the units' books
  refine Exists.elim (loop_st (fun n j z => f_X2_begin_L16 (nI v) (nI p) (fun z => f_X2_begin_L48 (nI v) (nI p) (fun z => f_X2_begin_L84 (fun z => some ((0 : Int32), z)) FU (0 : Int32) z) FU (0 : Int32) z) n (nI j) z) (fun z => f_X2_begin_L48 (nI v) (nI p) (fun z => f_X2_begin_L84 (fun z => some ((0 : Int32), z)) FU (0 : Int32) z) FU (0 : Int32) z) 12 (fun j z => (∀ u, u < j → z 32 u = 0 ∧ z 17 u = 0) ∧ ∀ k, k ≠ 32 → k ≠ 17 → z k = s0 k) ?_ ?_ FU 0 s0 (Nat.zero_le _) (by unfold FU; omega) ⟨fun u hu => absurd hu (Nat.not_lt_zero u), fun _ _ _ => rfl⟩) ?_
  · intro n z _
    show f_X2_begin_L16 _ _ _ (n + 1) _ z = _
    rw [f_X2_begin_L16, if_pos (show (12 : Int32) ≤ nI 12 from nI_le (a := 12) (Nat.le_refl _) (by omega))]
  · intro n j z hj ⟨z1, z2⟩
    have hcj : (nI j).toNatClampNeg = j := nI_clamp (by omega)
    refine ⟨va_up (va_up z 32 (upd (z 32) j 0)) 17 (upd (z 17) j 0), ?_, ?_, ?_⟩
    · show f_X2_begin_L16 _ _ _ (n + 1) _ z = f_X2_begin_L16 _ _ _ n _ _
      rw [f_X2_begin_L16, if_neg (show ¬ (12 : Int32) ≤ nI j from nI_ge (b := 12) hj (by omega))]
      simp only [ixb_nI hj (by decide), ck_d, wr, hcj, lt_d, nI_s]
      rfl
    · intro u hu
      by_cases e : u = j
      · subst e; simp [va_up, upd]
      · have := z1 u (by omega)
        simpa [va_up, upd, e] using this
    · intro k k1 k2
      rw [va_up_ne _ _ k2, va_up_ne _ _ k1]; exact z2 k k1 k2
  intro s1 h1
  obtain ⟨e1, d1, d2⟩ := h1
  rw [show f_X2_begin_L16 (nI v) (nI p) _ FU (0 : Int32) s0 = _ from e1]
  -- the posts
  refine Exists.elim (loop_st (fun n j z => f_X2_begin_L48 (nI v) (nI p) (fun z => f_X2_begin_L84 (fun z => some ((0 : Int32), z)) FU (0 : Int32) z) n (nI j) z) (fun z => f_X2_begin_L84 (fun z => some ((0 : Int32), z)) FU (0 : Int32) z) U (fun j z => (∀ u, u < j → z 18 u = (if (st v u).isNone then 1 else 0) ∧ ∀ s, st v u = some s → ∀ a, a < A → z (20 + u) a = nI (wyN (sx s) (sy s) (ax a) (ay a) p)) ∧ ∀ k, k ≠ 18 → (k < 20 ∨ 32 ≤ k) → z k = s1 k) ?_ ?_ FU 0 s1 (Nat.zero_le _) (by unfold FU; omega) ⟨fun u hu => absurd hu (Nat.not_lt_zero u), fun _ _ _ => rfl⟩) ?_
  · intro n z hz
    show f_X2_begin_L48 _ _ _ (n + 1) _ z = _
    rw [f_X2_begin_L48, hz.2 13 (by omega) (by omega), d2 13 (by omega) (by omega), b1, if_pos (nI_le (Nat.le_refl _) (by omega))]
  · intro n j z hj ⟨z1, z2⟩
    have hcj : (nI j).toNatClampNeg = j := nI_clamp (by omega)
    have hz : ∀ k, k < 13 → z k = σ k := fun k hk => by rw [z2 k (by omega) (by omega), d2 k (by omega) (by omega), b3 k (by omega)]
    have C' : CfX z S A U sx sy ax ay w p mk st := C.keep hz
    obtain ⟨hst, hst2⟩ := C'.2.2.2.2 v j hv hj
    obtain ⟨z', p1, p2, p3, p4⟩ := post_X C' (u := j) (by omega) (st v j) hst2
    refine ⟨z', ?_, ?_, ?_⟩
    · show f_X2_begin_L48 _ _ _ (n + 1) _ z = f_X2_begin_L48 _ _ _ n _ _
      rw [f_X2_begin_L48, z2 13 (by omega) (by omega), d2 13 (by omega) (by omega), b1, if_neg (nI_ge hj (by omega))]
      simp only [ixb_nI hv (by decide), ixb_nI (show j < 12 by omega) (by decide), ck_d, rd, hcv, hcj, hst, p1, bd_d, lt_d, nI_s]
    · intro u hu
      by_cases e : u = j
      · subst e
        rw [p2, upd_s]
        exact ⟨rfl, p3⟩
      · obtain ⟨y1, y2⟩ := z1 u (by omega)
        rw [p2, upd_n _ _ e, p4 (20 + u) (by omega) (by omega)]
        exact ⟨y1, y2⟩
    · intro k k1 k2
      rw [p4 k k1 (by omega)]; exact z2 k k1 k2
  intro s2 h2
  obtain ⟨e2, f1, f2⟩ := h2
  rw [show f_X2_begin_L48 (nI v) (nI p) _ FU (0 : Int32) s1 = _ from e2]
  -- nobody is sent yet
  refine Exists.elim (loop_st (fun n j z => f_X2_begin_L84 (fun z => some ((0 : Int32), z)) n (nI j) z) (fun z => some ((0 : Int32), z)) 60 (fun j z => (∀ i, i < j → z 14 i = -1) ∧ ∀ k, k ≠ 14 → z k = s2 k) ?_ ?_ FU 0 s2 (Nat.zero_le _) (by unfold FU; omega) ⟨fun u hu => absurd hu (Nat.not_lt_zero u), fun _ _ => rfl⟩) ?_
  · intro n z _
    show f_X2_begin_L84 _ (n + 1) _ z = _
    rw [f_X2_begin_L84, if_pos (show (60 : Int32) ≤ nI 60 from nI_le (a := 60) (Nat.le_refl _) (by omega))]
  · intro n j z hj ⟨z1, z2⟩
    have hcj : (nI j).toNatClampNeg = j := nI_clamp (by omega)
    refine ⟨va_up z 14 (upd (z 14) j (-1)), ?_, ?_, ?_⟩
    · show f_X2_begin_L84 _ (n + 1) _ z = f_X2_begin_L84 _ n _ _
      rw [f_X2_begin_L84, if_neg (show ¬ (60 : Int32) ≤ nI j from nI_ge (b := 60) hj (by omega))]
      simp only [ixb_nI hj (by decide), ck_d, wr, hcj, lt_d, nI_s]
    · intro i hi
      by_cases e : i = j
      · subst e; simp [va_up, upd]
      · have := z1 i (by omega)
        simpa [va_up, upd, e] using this
    · intro k k1
      rw [va_up_ne _ _ k1]; exact z2 k k1
  intro s3 h3
  obtain ⟨e3, g1, g2⟩ := h3
  refine ⟨s3, e3, ?_, ?_, ?_, ?_, g1, ?_⟩
  · rw [g2 13 (by omega), f2 13 (by omega) (by omega), d2 13 (by omega) (by omega)]; exact b1
  · rw [g2 13 (by omega), f2 13 (by omega) (by omega), d2 13 (by omega) (by omega)]; exact b2
  · rw [g2 32 (by omega), f2 32 (by omega) (by omega), g2 17 (by omega), f2 17 (by omega) (by omega)]; exact d1
  · intro u hu
    rw [g2 18 (by omega), g2 (20 + u) (by omega)]; exact f1 u hu
  · intro k hk
    rw [g2 k (by omega), f2 k (by omega) (by omega), d2 k (by omega) (by omega), b3 k (by omega)]
end CF
