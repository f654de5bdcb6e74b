/-! the reference's day -/
def wtgM (un mi : Nat → Int32) (t : Int32) (i : Nat) : Bool := !decide (0 ≤ un i) && !decide (t < mi i)
theorem next_M {σ : St} {N : Nat} (t : Int32) (hN : σ 39 12 = nI N) (h60 : N ≤ 60) : f_X5_next t σ = some (enc (pick (wtgM (σ 50) (σ 46) t) (ahd (σ 48) (σ 46)) N), σ) := by
  unfold f_X5_next
  refine loop_v (fun n j a => f_X5_next_L4 t (fun y s => some (y, s)) n a (nI j) σ) (fun a => some (a, σ)) N (fun j => enc (pick (wtgM (σ 50) (σ 46) t) (ahd (σ 48) (σ 46)) j)) ?_ ?_ FU 0 (Nat.zero_le _) (by unfold FU; omega)
  · intro n
    show f_X5_next_L4 _ _ (n + 1) _ _ σ = _
    rw [f_X5_next_L4, hN, if_pos (nI_le (Nat.le_refl _) (by omega))]
  · intro n j hj
    show f_X5_next_L4 _ _ (n + 1) _ _ σ = f_X5_next_L4 _ _ n _ _ σ
    have hc : (nI j).toNatClampNeg = j := nI_clamp (by omega)
    rw [f_X5_next_L4, hN, if_neg (nI_ge hj (by omega)), ixb_nI (by omega) (by decide)]
    simp only [ck_d, rd, hc, lt_d, nI_s, pick_s]
    have hw : (0 ≤ σ 50 j ∧ wtgM (σ 50) (σ 46) t j = false) ∨ (¬ 0 ≤ σ 50 j ∧ t < σ 46 j ∧ wtgM (σ 50) (σ 46) t j = false) ∨ (¬ 0 ≤ σ 50 j ∧ ¬ t < σ 46 j ∧ wtgM (σ 50) (σ 46) t j = true) := by
      by_cases h1 : 0 ≤ σ 50 j
      · exact Or.inl ⟨h1, by simp [wtgM, h1]⟩
      · by_cases h2 : t < σ 46 j
        · exact Or.inr (Or.inl ⟨h1, h2, by simp [wtgM, h2]⟩)
        · exact Or.inr (Or.inr ⟨h1, h2, by simp [wtgM, h1, h2]⟩)
    cases hp : pick (wtgM (σ 50) (σ 46) t) (ahd (σ 48) (σ 46)) j with
    | none =>
      have hm : enc none < (0 : Int32) := by decide
      simp only [hm, if_true]
      rcases hw with ⟨h1, e⟩ | ⟨h1, h2, e⟩ | ⟨h1, h2, e⟩
      · simp [h1, e]
      · simp [h1, h2, e]
      · simp [h1, h2, e, enc]
    | some b =>
      have hb := pick_lt hp
      have hcb : (nI b).toNatClampNeg = b := nI_clamp (by omega)
      have hm : ¬ enc (some b) < (0 : Int32) := nI_nneg (by omega)
      have hib : ixb (enc (some b)) 60 = true := ixb_nI (by omega) (by decide)
      have hce : (enc (some b)).toNatClampNeg = b := hcb
      simp only [hm, if_false, hib, ck_d, hce]
      have ha : (σ 48 b < σ 48 j ∧ ahd (σ 48) (σ 46) j b = true) ∨ (¬ σ 48 b < σ 48 j ∧ σ 48 j = σ 48 b ∧ σ 46 b ≤ σ 46 j ∧ ahd (σ 48) (σ 46) j b = false) ∨ (¬ σ 48 b < σ 48 j ∧ σ 48 j = σ 48 b ∧ ¬ σ 46 b ≤ σ 46 j ∧ ahd (σ 48) (σ 46) j b = true) ∨ (¬ σ 48 b < σ 48 j ∧ ¬ σ 48 j = σ 48 b ∧ ahd (σ 48) (σ 46) j b = false) := by
        by_cases a1 : σ 48 b < σ 48 j
        · refine Or.inl ⟨a1, ?_⟩
          have n1 : ¬ σ 48 j = σ 48 b := fun e => by rw [e] at a1; exact Int32.lt_irrefl a1
          have n2 : ¬ σ 48 j ≤ σ 48 b := Int32.not_le.mpr a1
          simp [ahd, n1, n2]
        · by_cases a2 : σ 48 j = σ 48 b
          · by_cases a3 : σ 46 b ≤ σ 46 j
            · exact Or.inr (Or.inl ⟨a1, a2, a3, by simp [ahd, a2, a3]⟩)
            · exact Or.inr (Or.inr (Or.inl ⟨a1, a2, a3, by simp [ahd, a2, a3]⟩))
          · have n2 : σ 48 j ≤ σ 48 b := Int32.not_lt.mp a1
            exact Or.inr (Or.inr (Or.inr ⟨a1, a2, by simp [ahd, a2, n2]⟩))
      rcases hw with ⟨h1, e⟩ | ⟨h1, h2, e⟩ | ⟨h1, h2, e⟩ <;> rcases ha with ⟨a1, f⟩ | ⟨a1, a2, a3, f⟩ | ⟨a1, a2, a3, f⟩ | ⟨a1, a2, f⟩ <;> simp only [*, if_true, if_false, Bool.false_and, Bool.true_and, Bool.false_eq_true] <;> first | rfl | simp [enc]
def absM (x : Int32) : Int32 := if 0 ≤ x then x else -x
theorem size_M (x : Int32) (σ : St) : f_X5_size x σ = some (absM x, σ) := by
  unfold f_X5_size absM
  split <;> rfl
def wayM (σ : St) (s a : Nat) : Int32 := ((absM (σ 40 s - σ 42 a) + absM (σ 41 s - σ 43 a)) * σ 39 1 + 3) / 4
theorem wayOf_M {σ : St} {s a : Nat} (hs : s < 6) (ha : a < 10) : f_X5_wayOf (nI s) (nI a) σ = some (wayM σ s a, σ) := by
  unfold f_X5_wayOf
  have h1 : (nI s).toNatClampNeg = s := nI_clamp (by omega)
  have h2 : (nI a).toNatClampNeg = a := nI_clamp (by omega)
  simp only [ixb_nI hs (by decide), ixb_nI ha (by decide), ck_d, rd, h1, h2, size_M, bd_d, lt_d]
  rfl
theorem i12 (v u : Nat) : ((12 : Int32) * nI v) + nI u = nI (12 * v + u) := by
  rw [show (12 : Int32) = nI 12 from rfl, pk_mul, nI_add]
def freeM (σ : St) (v : Nat) (t : Int32) (u : Nat) : Bool := !decide (σ 45 (12 * v + u) < 0) && !decide (t < σ 53 u)
theorem nearest_M {σ : St} {U a v : Nat} (t : Int32) (w : Nat → Int32) (hU : σ 39 10 = nI U) (h12 : U ≤ 12) (hv : v < 4) (hw : ∀ u, u < U → freeM σ v t u = true → f_X5_wayOf (σ 45 (12 * v + u)) (nI a) σ = some (w u, σ) ∧ ¬ (100000000 : Int32) ≤ w u) :
    f_X5_nearest (nI v) (nI a) t σ = some (enc (pick (freeM σ v t) (nrr w) U), σ) := by
  unfold f_X5_nearest
  refine loop_v (fun n j (q : Int32 × Int32) => f_X5_nearest_L10 (nI v) (nI a) t (fun y s => some (y, s)) n q.1 q.2 (nI j) σ) (fun q => some (q.1, σ)) U (fun j => (enc (pick (freeM σ v t) (nrr w) j), lst w 100000000 (pick (freeM σ v t) (nrr w) j))) ?_ ?_ FU 0 (Nat.zero_le _) (by unfold FU; omega)
  · intro n
    show f_X5_nearest_L10 _ _ _ _ (n + 1) _ _ _ σ = _
    rw [f_X5_nearest_L10, hU, if_pos (nI_le (Nat.le_refl _) (by omega))]
  · intro n j hj
    show f_X5_nearest_L10 _ _ _ _ (n + 1) _ _ _ σ = f_X5_nearest_L10 _ _ _ _ n _ _ _ σ
    have hc : (nI j).toNatClampNeg = j := nI_clamp (by omega)
    have hcv : (nI (12 * v + j)).toNatClampNeg = 12 * v + j := nI_clamp (by omega)
    rw [f_X5_nearest_L10, hU, if_neg (nI_ge hj (by omega))]
    simp only [i12, ixb_nI (show 12 * v + j < 48 by omega) (by decide), ixb_nI (show j < 12 by omega) (by decide), ck_d, rd, hc, hcv, lt_d, nI_s, pick_s]
    by_cases h1 : σ 45 (12 * v + j) < 0
    · have e : freeM σ v t j = false := by simp [freeM, h1]
      simp only [h1, e, if_true, Bool.false_and, Bool.false_eq_true, if_false]
      cases hp : pick (freeM σ v t) (nrr w) j <;> rfl
    · by_cases h2 : t < σ 53 j
      · have e : freeM σ v t j = false := by simp [freeM, h2]
        simp only [h1, h2, e, if_true, if_false, Bool.false_and, Bool.false_eq_true]
        cases hp : pick (freeM σ v t) (nrr w) j <;> rfl
      · have e : freeM σ v t j = true := by simp [freeM, h1, h2]
        obtain ⟨hw1, hw2⟩ := hw j hj e
        simp only [h1, h2, e, if_true, if_false, hw1, bd_d, Bool.true_and]
        cases hp : pick (freeM σ v t) (nrr w) j with
        | none =>
          rw [if_neg (show ¬ lst w 100000000 none ≤ w j from hw2)]
          rfl
        | some b =>
          by_cases h3 : w b ≤ w j
          · rw [if_pos (show lst w 100000000 (some b) ≤ w j from h3)]
            simp [nrr, h3]
          · rw [if_neg (show ¬ lst w 100000000 (some b) ≤ w j from h3)]
            simp [nrr, h3, enc, lst]
theorem later_M {σ : St} {N U : Nat} (t : Int32) (hN : σ 39 12 = nI N) (h60 : N ≤ 60) (hU : σ 39 10 = nI U) (h12 : U ≤ 12) : f_X5_later t σ = some (mn (σ 53) t (mn (σ 46) t 100000000 N) U, σ) := by
  unfold f_X5_later
  refine (loop_v (fun n j a => f_X5_later_L5 t (fun y s => f_X5_later_L52 t (fun y2 s2 => some (y2, s2)) FU y (0 : Int32) s) n a (nI j) σ) (fun a => f_X5_later_L52 t (fun y2 s2 => some (y2, s2)) FU a (0 : Int32) σ) N (fun j => mn (σ 46) t 100000000 j) ?_ ?_ FU 0 (Nat.zero_le _) (by unfold FU; omega)).trans ?_
  rotate_right
  · refine loop_v (fun n j a => f_X5_later_L52 t (fun y s => some (y, s)) n a (nI j) σ) (fun a => some (a, σ)) U (fun j => mn (σ 53) t (mn (σ 46) t 100000000 N) j) ?_ ?_ FU 0 (Nat.zero_le _) (by unfold FU; omega)
    · intro n
      show f_X5_later_L52 _ _ (n + 1) _ _ σ = _
      rw [f_X5_later_L52, hU, if_pos (nI_le (Nat.le_refl _) (by omega))]
    · intro n j hj
      show f_X5_later_L52 _ _ (n + 1) _ _ σ = f_X5_later_L52 _ _ n _ _ σ
      have hc : (nI j).toNatClampNeg = j := nI_clamp (by omega)
      rw [f_X5_later_L52, hU, if_neg (nI_ge hj (by omega))]
      simp only [ixb_nI (show j < 12 by omega) (by decide), ck_d, rd, hc, lt_d, nI_s]
      by_cases h1 : σ 53 j ≤ t
      · simp only [h1, if_true, mn]
      · by_cases h2 : mn (σ 53) t (mn (σ 46) t 100000000 N) j ≤ σ 53 j
        · simp only [h1, h2, if_true, if_false, mn, Int32.not_lt.mpr h2]
        · simp only [h1, h2, if_true, if_false, mn, Int32.not_le.mp h2]
  · intro n
    show f_X5_later_L5 _ _ (n + 1) _ _ σ = _
    rw [f_X5_later_L5, hN, if_pos (nI_le (Nat.le_refl _) (by omega))]
  · intro n j hj
    show f_X5_later_L5 _ _ (n + 1) _ _ σ = f_X5_later_L5 _ _ n _ _ σ
    have hc : (nI j).toNatClampNeg = j := nI_clamp (by omega)
    rw [f_X5_later_L5, hN, if_neg (nI_ge hj (by omega))]
    simp only [ixb_nI (show j < 60 by omega) (by decide), ck_d, rd, hc, lt_d, nI_s]
    by_cases h1 : σ 46 j ≤ t
    · simp only [h1, if_true, mn]
    · by_cases h2 : mn (σ 46) t 100000000 j ≤ σ 46 j
      · simp only [h1, h2, if_true, if_false, mn, Int32.not_lt.mpr h2]
      · simp only [h1, h2, if_true, if_false, mn, Int32.not_le.mp h2]
/-- the busy minutes of one sending -/
def bsy (f : Nat → Int32) (a b j : Nat) : Nat → Int32 := fun m => if a ≤ m ∧ m < j ∧ m < b ∧ m < 1440 then f m + 1 else f m
theorem sendLoop_M {σ : St} {u a b : Nat} (hu : u < 12) (hb : σ 53 u = nI b) (hb31 : b < 1000000) (hab : a ≤ b) : f_X5_send_L65 (nI u) (fun s => some ((0 : Int32), s)) FU (nI a) σ = some (0, va_up σ 55 (bsy (σ 55) a b 1440)) := by
  have hcu : (nI u).toNatClampNeg = u := nI_clamp (by omega)
  suffices h : ∀ n j, a ≤ j → (j ≤ b) → 1440 - j < n → b - j < n → (j ≤ 1440 ∨ j = a) → f_X5_send_L65 (nI u) (fun s => some ((0 : Int32), s)) n (nI j) (va_up σ 55 (bsy (σ 55) a b j)) = some (0, va_up σ 55 (bsy (σ 55) a b 1440)) by
    have h0 := h FU a (Nat.le_refl a) hab (by unfold FU; omega) (by unfold FU; omega) (Or.inr rfl)
    have e : va_up σ 55 (bsy (σ 55) a b a) = σ := by
      funext k m
      by_cases hk : k = 55
      · subst hk
        rw [va_up_self]
        show (if a ≤ m ∧ m < a ∧ m < b ∧ m < 1440 then _ else _) = _
        rw [if_neg (by omega)]
      · rw [va_up_ne _ _ hk]
    rw [e] at h0
    exact h0
  intro n
  induction n with
  | zero => intro j _ _ h; omega
  | succ n ih =>
    intro j ha hj h1 h2 h3
    have h53 : (va_up σ 55 (bsy (σ 55) a b j)) 53 u = nI b := by rw [va_up_ne _ _ (by decide)]; exact hb
    have hc : (nI j).toNatClampNeg = j := nI_clamp (by omega)
    rw [f_X5_send_L65, ixb_nI hu (by decide), ck_d]
    simp only [rd, hcu, h53]
    by_cases e1 : b ≤ j
    · rw [if_pos (nI_le e1 (by omega))]
      have : bsy (σ 55) a b j = bsy (σ 55) a b 1440 := by
        funext m
        unfold bsy
        by_cases q : a ≤ m ∧ m < b ∧ m < 1440
        · rw [if_pos ⟨q.1, by omega, q.2⟩, if_pos ⟨q.1, by omega, q.2⟩]
        · rw [if_neg (fun z => q ⟨z.1, z.2.2⟩), if_neg (fun z => q ⟨z.1, z.2.2⟩)]
      rw [this]
    · rw [if_neg (nI_ge (by omega) (by omega))]
      by_cases e2 : 1440 ≤ j
      · rw [if_pos (show (1440 : Int32) ≤ nI j from nI_le (a := 1440) e2 (by omega))]
        have : bsy (σ 55) a b j = bsy (σ 55) a b 1440 := by
          funext m
          unfold bsy
          by_cases q : a ≤ m ∧ m < b ∧ m < 1440
          · rw [if_pos ⟨q.1, by omega, q.2⟩, if_pos ⟨q.1, by omega, q.2⟩]
          · rw [if_neg (fun z => q ⟨z.1, z.2.2⟩), if_neg (fun z => q ⟨z.1, z.2.2⟩)]
        rw [this]
      · rw [if_neg (show ¬ (1440 : Int32) ≤ nI j from nI_ge (b := 1440) (by omega) (by omega))]
        simp only [ixb_nI (show j < 1440 by omega) (by decide), ck_d, wr, hc, lt_d, nI_s, va_up_self]
        have e : va_up (va_up σ 55 (bsy (σ 55) a b j)) 55 (upd (bsy (σ 55) a b j) j (bsy (σ 55) a b j j + 1)) = va_up σ 55 (bsy (σ 55) a b (j + 1)) := by
          funext k m
          by_cases hk : k = 55
          · subst hk
            rw [va_up_self, va_up_self]
            by_cases hm : m = j
            · subst hm
              rw [upd_s]
              unfold bsy
              rw [if_neg (by omega), if_pos (by omega)]
            · rw [upd_n _ _ hm]
              unfold bsy
              by_cases q : a ≤ m ∧ m < j ∧ m < b ∧ m < 1440
              · rw [if_pos q, if_pos (by omega)]
              · rw [if_neg q, if_neg (by omega)]
          · rw [va_up_ne _ _ hk, va_up_ne _ _ hk, va_up_ne _ _ hk]
        rw [e]
        exact ih (j + 1) (by omega) (by omega) (by omega) (by omega) (Or.inl (by omega))
theorem send_M {σ : St} {i u w l a : Nat} (hi : i < 60) (hu : u < 12) (hl : σ 49 i = nI l) (ha : a < 100000) (hw : w ≤ 1000) (hlb : l ≤ 1000) :
    ∃ σ' : St, f_X5_send (nI i) (nI u) (nI w) (nI a) σ = some (0, σ') ∧ σ' 50 = upd (σ 50) i (nI u) ∧ σ' 52 = upd (σ 52) i (nI w) ∧ σ' 51 = upd (σ 51) i (nI (a + w)) ∧ σ' 53 = upd (σ 53) u (nI (a + 2 * w + l)) ∧ σ' 54 = upd (σ 54) u (σ 54 u + (nI (a + 2 * w + l) - nI a)) ∧ σ' 55 = bsy (σ 55) a (a + 2 * w + l) 1440 ∧ ∀ k, k ≠ 50 → k ≠ 51 → k ≠ 52 → k ≠ 53 → k ≠ 54 → k ≠ 55 → σ' k = σ k := by
  unfold f_X5_send
  have h1 : (nI i).toNatClampNeg = i := nI_clamp (by omega)
  have h2 : (nI u).toNatClampNeg = u := nI_clamp (by omega)
  simp only [ixb_nI hi (by decide), ixb_nI hu (by decide), rd, wr, h1, h2, ck_d, lt_d]
  have e2 : (2 : Int32) * nI w = nI (2 * w) := by rw [show (2 : Int32) = nI 2 from rfl, pk_mul]
  simp only [e2, nI_add]
  rw [sendLoop_M (b := a + 2 * w + l) hu ?_ (by omega) (by omega)]
  · refine ⟨_, rfl, ?_, ?_, ?_, ?_, ?_, ?_, ?_⟩
    · simp [va_up]
    · simp [va_up]
    · simp [va_up]
    · simp [va_up, hl, nI_add]
    · simp [va_up, upd, hl, nI_add]
    · simp [va_up]
    · intro k k1 k2 k3 k4 k5 k6
      simp [va_up, k1, k2, k3, k4, k5, k6]
  · simp [va_up, upd, hl, nI_add]
