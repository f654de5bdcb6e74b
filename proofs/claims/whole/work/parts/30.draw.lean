/-! drawing a day's calls -/
theorem of32 (x : Int32) : ∃ n : Nat, n < 4294967296 ∧ x = nI n := ⟨x.toBitVec.toNat, x.toBitVec.isLt, by
  unfold nI
  apply Int32.toBitVec_inj.mp
  simp⟩
theorem ush4 (x : Int32) : ∃ k : Nat, k < 268435456 ∧ ush x (4 : Int32) = nI k := by
  obtain ⟨n, hn, rfl⟩ := of32 x
  refine ⟨n / 16, by omega, ?_⟩
  exact pk_ushrN (n := n) (by omega) 4 4 (by decide)
theorem ush8 (x : Int32) : ∃ k : Nat, k < 16777216 ∧ ush x (8 : Int32) = nI k := by
  obtain ⟨n, hn, rfl⟩ := of32 x
  refine ⟨n / 256, by omega, ?_⟩
  exact pk_ushrN (n := n) (by omega) 8 8 (by decide)
theorem irmN {k m : Nat} (hk : k < 2147483648) (h0 : 0 < m) (hm : m < 2147483648) : irm (nI k) (nI m) = nI (k % m) := pk_rem hk h0 hm
def mixf (x : Int32) : Int32 :=
  let a := (x ^^^ (ush x (15 : Int32))) * (-2048144789 : Int32)
  let b := (a ^^^ (ush a (13 : Int32))) * (-1028477387 : Int32)
  b ^^^ (ush b (16 : Int32))
theorem mix_X (x : Int32) (σ : St) : f_X0_mix x σ = some (mixf x, σ) := rfl
theorem mix_M (x : Int32) (σ : St) : f_X5_mix x σ = some (mixf x, σ) := rfl
def psum (w : Nat → Nat) : Nat → Nat
  | 0 => 0
  | n + 1 => psum w n + w n
theorem psum_mono (w : Nat → Nat) (a : Nat) : ∀ k, psum w a ≤ psum w (a + k)
  | 0 => Nat.le_refl _
  | k + 1 => Nat.le_trans (psum_mono w a k) (Nat.le_add_right _ _)
theorem psum_le (w : Nat → Nat) {a b : Nat} (h : a ≤ b) : psum w a ≤ psum w b := by
  have := psum_mono w a (b - a)
  rw [show a + (b - a) = b by omega] at this
  exact this
theorem psum_bd (w : Nat → Nat) : ∀ n, (∀ a, a < n → w a ≤ 50) → psum w n ≤ 50 * n
  | 0, _ => Nat.le_refl _
  | n + 1, h => by
    have h1 := psum_bd w n (fun a ha => h a (by omega))
    have h2 := h n (by omega)
    show psum w n + w n ≤ _
    omega
theorem psum_find (w : Nat → Nat) (r : Nat) : ∀ n, r < psum w n → ∃ a, a < n ∧ psum w a ≤ r ∧ r < psum w (a + 1)
  | 0, h => absurd h (Nat.not_lt_zero r)
  | n + 1, h => by
    by_cases q : r < psum w n
    · obtain ⟨a, h1, h2⟩ := psum_find w r n q
      exact ⟨a, by omega, h2⟩
    · exact ⟨n, by omega, by omega, h⟩
/-- towns: the areas' weights -/
def TwX (σ : St) (A : Nat) (w : Nat → Nat) : Prop := A ≤ 10 ∧ σ 1 6 = nI A ∧ σ 1 7 = nI (psum w A) ∧ ∀ a, a < A → σ 6 a = nI (w a) ∧ 1 ≤ w a ∧ w a ≤ 50
def TwM (τ : St) (A : Nat) (w : Nat → Nat) : Prop := A ≤ 10 ∧ τ 39 6 = nI A ∧ ∀ a, a < A → τ 44 a = nI (w a) ∧ 1 ≤ w a ∧ w a ≤ 50
theorem area_X {σ : St} {A k a0 : Nat} {w : Nat → Nat} (T : TwX σ A w) (hk : k < 268435456) (ha : a0 < A) (h1 : psum w a0 ≤ k % psum w A) (h2 : k % psum w A < psum w (a0 + 1)) : f_X3_areaOfDraw (nI k) σ = some (nI a0, σ) := by
  obtain ⟨hA, c1, c2, hw⟩ := T
  have hb := psum_bd w A (fun a ha => (hw a ha).2.2)
  have hp : 0 < psum w A := by
    have := psum_le w (a := a0 + 1) (b := A) (by omega)
    omega
  have e1 : (if (σ 1 7) < (1 : Int32) then (1 : Int32) else (σ 1 7)) = nI (psum w A) := by
    rw [c2, if_neg]
    show ¬ nI (psum w A) < nI 1
    exact nI_nlt (by omega) (by omega)
  unfold f_X3_areaOfDraw
  rw [e1, lt_d, show nzb (nI (psum w A)) = true from decide_eq_true (nI_ne0 hp (by omega)), ck_d, irmN (by omega) hp (by omega), lt_d]
  obtain ⟨r, hr⟩ : ∃ r, r = k % psum w A := ⟨_, rfl⟩
  rw [← hr] at h1 h2 ⊢
  suffices h : ∀ n j v3, j ≤ a0 → a0 - j + 1 < n → f_X3_areaOfDraw_L16 (fun y s => some (y, s)) n (nI (r - psum w j)) v3 (nI j) σ = some (nI a0, σ) from h FU 0 0 (Nat.zero_le _) (by unfold FU; omega)
  intro n
  induction n with
  | zero => intro j v3 _ h; omega
  | succ n ih =>
    intro j v3 hj hn
    have hc : (nI j).toNatClampNeg = j := nI_clamp (by omega)
    have hpj := psum_le w hj
    have hpa := psum_le w (a := a0 + 1) (b := A) (by omega)
    rw [f_X3_areaOfDraw_L16, c1, if_neg (nI_ge (by omega) (by omega)), if_neg (nI_nneg (by omega)), ixb_nI (by omega) (by decide), ck_d]
    simp only [rd, hc, lt_d, nI_s, (hw j (by omega)).1]
    have hs : psum w (j + 1) = psum w j + w j := rfl
    by_cases e : j = a0
    · subst e
      obtain ⟨n, rfl⟩ : ∃ m, n = m + 1 := ⟨n - 1, by omega⟩
      rw [f_X3_areaOfDraw_L16]
      rw [if_pos (pk_sneg (a := r - psum w j) (b := w j) (by omega) (by omega))]
      split <;> rfl
    · have hpj2 := psum_le w (a := j + 1) (b := a0) (by omega)
      rw [pk_sub (show w j ≤ r - psum w j by omega), show r - psum w j - w j = r - psum w (j + 1) by omega]
      exact ih (j + 1) (nI j) (by omega) (by omega)
theorem area_M {τ : St} {A k a0 : Nat} {w : Nat → Nat} (T : TwM τ A w) (hk : k < 268435456) (ha : a0 < A) (h1 : psum w a0 ≤ k % psum w A) (h2 : k % psum w A < psum w (a0 + 1)) : f_X5_areaOf (nI k) τ = some (nI a0, τ) := by
  obtain ⟨hA, c1, hw⟩ := T
  have hb := psum_bd w A (fun a ha => (hw a ha).2.2)
  have hp : 0 < psum w A := by
    have := psum_le w (a := a0 + 1) (b := A) (by omega)
    omega
  unfold f_X5_areaOf
  refine (loop_v (fun n j a => f_X5_areaOf_L4 (nI k) (fun y s => ck (nzb y) (lt (irm (nI k) y) (fun x => f_X5_areaOf_L34 (fun y2 s2 => some (y2, s2)) FU x (0 : Int32) s))) n a (nI j) τ) (fun y => ck (nzb y) (lt (irm (nI k) y) (fun x => f_X5_areaOf_L34 (fun y2 s2 => some (y2, s2)) FU x (0 : Int32) τ))) A (fun j => nI (psum w j)) ?_ ?_ FU 0 (Nat.zero_le _) (by unfold FU; omega)).trans ?_
  · intro n
    show f_X5_areaOf_L4 _ _ (n + 1) _ _ τ = _
    rw [f_X5_areaOf_L4, c1, if_pos (nI_le (Nat.le_refl _) (by omega))]
  · intro n j hj
    show f_X5_areaOf_L4 _ _ (n + 1) _ _ τ = f_X5_areaOf_L4 _ _ n _ _ τ
    have hc : (nI j).toNatClampNeg = j := nI_clamp (by omega)
    rw [f_X5_areaOf_L4, c1, if_neg (nI_ge hj (by omega)), ixb_nI (by omega) (by decide), ck_d]
    simp only [rd, hc, lt_d, nI_s, (hw j hj).1, nI_add]
    rfl
  · show ck (nzb (nI (psum w A))) _ = _
    rw [show nzb (nI (psum w A)) = true from decide_eq_true (nI_ne0 hp (by omega)), ck_d, irmN (by omega) hp (by omega), lt_d]
    obtain ⟨r, hr⟩ : ∃ r, r = k % psum w A := ⟨_, rfl⟩
    rw [← hr] at h1 h2 ⊢
    suffices h : ∀ n j, j ≤ a0 → a0 - j < n → f_X5_areaOf_L34 (fun y s => some (y, s)) n (nI (r - psum w j)) (nI j) τ = some (nI a0, τ) from h FU 0 (Nat.zero_le _) (by unfold FU; omega)
    intro n
    induction n with
    | zero => intro j _ h; omega
    | succ n ih =>
      intro j hj hn
      have hc : (nI j).toNatClampNeg = j := nI_clamp (by omega)
      have hpj := psum_le w hj
      have hpa := psum_le w (a := a0 + 1) (b := A) (by omega)
      have hs : psum w (j + 1) = psum w j + w j := rfl
      rw [f_X5_areaOf_L34, ixb_nI (by omega) (by decide), ck_d]
      simp only [rd, hc, lt_d, nI_s, (hw j (by omega)).1, ck_d]
      by_cases e : j = a0
      · subst e
        rw [if_pos (nI_lt (by omega) (by omega))]
      · have hpj2 := psum_le w (a := j + 1) (b := a0) (by omega)
        rw [if_neg (nI_nlt (by omega) (by omega)), pk_sub (show w j ≤ r - psum w j by omega), show r - psum w j - w j = r - psum w (j + 1) by omega]
        exact ih (j + 1) (by omega) (by omega)
theorem loop_st {β : Type} (F : Nat → Nat → St → β) (K : St → β) (N : Nat) (I : Nat → St → Prop) (hx : ∀ n s, I N s → F (n + 1) N s = K s) (hs : ∀ n j s, j < N → I j s → ∃ s', F (n + 1) j s = F n (j + 1) s' ∧ I (j + 1) s') : ∀ n j s, j ≤ N → N - j < n → I j s → ∃ s', F n j s = K s' ∧ I N s' := by
  intro n
  induction n with
  | zero => intro j s _ h; omega
  | succ n ih =>
    intro j s hj hn hI
    by_cases e : j = N
    · subst e; exact ⟨s, hx n s hI, hI⟩
    · obtain ⟨s', h1, h2⟩ := hs n j s (by omega) hI
      rw [h1]
      exact ih (j + 1) s' (by omega) (by omega) h2
/-- the draws of call i -/
def dv (sd dy : Int32) (i : Nat) : Int32 := mixf ((sd + ((1000003 : Int32) * dy)) + ((31 : Int32) * nI i))
def dw (sd dy : Int32) (i : Nat) : Int32 := mixf (dv sd dy i + (1 : Int32))
def du (sd dy : Int32) (i : Nat) : Int32 := mixf (dw sd dy i + (1 : Int32))
def dMin (sd dy : Int32) (i : Nat) : Int32 := irm (ush (dv sd dy i) (4 : Int32)) (1440 : Int32)
def dRank (sd dy : Int32) (i : Nat) : Int32 := dw sd dy i &&& (3 : Int32)
def dLast (sd dy : Int32) (i : Nat) : Int32 := (10 : Int32) + (irm (ush (dw sd dy i) (8 : Int32)) (90 : Int32))
theorem dMin_n (sd dy : Int32) (i : Nat) : ∃ m, m < 1440 ∧ dMin sd dy i = nI m := by
  obtain ⟨k, hk, e⟩ := ush4 (dv sd dy i)
  refine ⟨k % 1440, Nat.mod_lt _ (by omega), ?_⟩
  unfold dMin
  rw [e]
  exact irmN (m := 1440) (by omega) (by omega) (by omega)
theorem dLast_n (sd dy : Int32) (i : Nat) : ∃ l, 10 ≤ l ∧ l ≤ 99 ∧ dLast sd dy i = nI l := by
  obtain ⟨k, hk, e⟩ := ush8 (dw sd dy i)
  refine ⟨10 + k % 90, by omega, by have := Nat.mod_lt k (show 0 < 90 by omega); omega, ?_⟩
  unfold dLast
  rw [e, show irm (nI k) (90 : Int32) = nI (k % 90) from irmN (m := 90) (by omega) (by omega) (by omega), show (10 : Int32) = nI 10 from rfl, nI_add]
theorem draw_X {σ : St} {A N : Nat} {w ar : Nat → Nat} (sd dy : Int32) (T : TwX σ A w) (h60 : N ≤ 60) (har : ∀ i, i < N → ∀ k, k < 268435456 → ush (du sd dy i) (4 : Int32) = nI k → ar i < A ∧ psum w (ar i) ≤ k % psum w A ∧ k % psum w A < psum w (ar i + 1)) :
    ∃ σ', f_X0_draw sd dy (nI N) σ = some (0, σ') ∧ σ' 34 4 = nI N ∧ (∀ i, i < N → σ' 35 i = dMin sd dy i ∧ σ' 36 i = nI (ar i) ∧ σ' 37 i = dRank sd dy i ∧ σ' 38 i = dLast sd dy i) ∧ ∀ k, k < 34 ∨ 38 < k → σ' k = σ k := by
  unfold f_X0_draw
  rw [lt_d]
  have h0 : ∀ k, k ≠ 34 → (wf σ 34 4 (nI N)) k = σ k := fun k hk => va_up_ne _ _ hk
  have h34 : (wf σ 34 4 (nI N)) 34 4 = nI N := by show va_up σ 34 _ 34 4 = _; rw [va_up_self, upd_s]
  refine Exists.elim (loop_st (fun n j s => f_X0_draw_L9 sd dy (nI N) (fun s => some ((0 : Int32), s)) n (nI j) s) (fun s => some ((0 : Int32), s)) N (fun j s => s 34 4 = nI N ∧ (∀ i, i < j → s 35 i = dMin sd dy i ∧ s 36 i = nI (ar i) ∧ s 37 i = dRank sd dy i ∧ s 38 i = dLast sd dy i) ∧ ∀ k, k < 34 ∨ 38 < k → s k = σ k) ?_ ?_ FU 0 (wf σ 34 4 (nI N)) (Nat.zero_le _) (by unfold FU; omega) ⟨h34, fun i hi => absurd hi (Nat.not_lt_zero i), fun k hk => h0 k (by omega)⟩) (fun σ' h => ⟨σ', h.1, h.2.1, h.2.2.1, h.2.2.2⟩)
  · intro n s _
    show f_X0_draw_L9 _ _ _ _ (n + 1) _ s = _
    rw [f_X0_draw_L9, if_pos (nI_le (Nat.le_refl _) (by omega))]
  · intro n j s hj ⟨g1, g2, g3⟩
    have hc : (nI j).toNatClampNeg = j := nI_clamp (by omega)
    obtain ⟨k, hk, ek⟩ := ush4 (du sd dy j)
    obtain ⟨a1, a2, a3⟩ := har j hj k hk ek
    have T' : ∀ s' : St, s' 1 = s 1 → s' 6 = s 6 → TwX s' A w := fun s' q1 q2 => by
      obtain ⟨t1, t2, t3, t4⟩ := T
      refine ⟨t1, ?_, ?_, ?_⟩
      · rw [q1, g3 1 (by omega)]; exact t2
      · rw [q1, g3 1 (by omega)]; exact t3
      · rw [q2, g3 6 (by omega)]; exact t4
    have ea : ∀ s' : St, s' 1 = s 1 → s' 6 = s 6 → f_X3_areaOfDraw (ush (du sd dy j) (4 : Int32)) s' = some (nI (ar j), s') := fun s' q1 q2 => by rw [ek]; exact area_X (T' s' q1 q2) hk a1 a2 a3
    have e1 : mixf ((sd + ((1000003 : Int32) * dy)) + ((31 : Int32) * nI j)) = dv sd dy j := rfl
    have e2 : mixf (dv sd dy j + (1 : Int32)) = dw sd dy j := rfl
    have e3 : mixf (dw sd dy j + (1 : Int32)) = du sd dy j := rfl
    refine ⟨va_up (va_up (va_up (va_up s 35 (upd (s 35) j (dMin sd dy j))) 37 (upd (s 37) j (dRank sd dy j))) 38 (upd (s 38) j (dLast sd dy j))) 36 (upd (s 36) j (nI (ar j))), ?_, ?_, ?_, ?_⟩
    · show f_X0_draw_L9 _ _ _ _ (n + 1) _ s = f_X0_draw_L9 _ _ _ _ n _ _
      rw [f_X0_draw_L9, if_neg (nI_ge hj (by omega))]
      simp only [mix_X, bd_d, e1, e2, e3, ixb_nI (show j < 60 by omega) (by decide), ck_d, wr, hc, lt_d, nI_s]
      rw [ea]
      · simp only [bd_d]
        rfl
      · rfl
      · rfl
    · simp [va_up, g1]
    · intro i hi
      by_cases e : i = j
      · subst e
        simp [va_up, upd]
      · have := g2 i (by omega)
        simpa [va_up, upd, e] using this
    · intro k hk
      have := g3 k hk
      rw [← this]
      simp [va_up, show k ≠ 35 by omega, show k ≠ 36 by omega, show k ≠ 37 by omega, show k ≠ 38 by omega]
theorem draw_M {τ : St} {A N : Nat} {w ar : Nat → Nat} (sd dy : Int32) (T : TwM τ A w) (h60 : N ≤ 60) (har : ∀ i, i < N → ∀ k, k < 268435456 → ush (du sd dy i) (4 : Int32) = nI k → ar i < A ∧ psum w (ar i) ≤ k % psum w A ∧ k % psum w A < psum w (ar i + 1)) :
    ∃ τ', f_X5_draw sd dy (nI N) τ = some (0, τ') ∧ τ' 39 12 = nI N ∧ (∀ i, i < N → τ' 46 i = dMin sd dy i ∧ τ' 47 i = nI (ar i) ∧ τ' 48 i = dRank sd dy i ∧ τ' 49 i = dLast sd dy i ∧ τ' 50 i = -1) ∧ (∀ j, j ≠ 12 → τ' 39 j = τ 39 j) ∧ ∀ k, k ≠ 39 → k < 46 ∨ 52 < k → τ' k = τ k := by
  unfold f_X5_draw
  rw [lt_d]
  have h0 : ∀ k, k ≠ 39 → (wf τ 39 12 (nI N)) k = τ k := fun k hk => va_up_ne _ _ hk
  have h34 : (wf τ 39 12 (nI N)) 39 12 = nI N := by show va_up τ 39 _ 39 12 = _; rw [va_up_self, upd_s]
  have h35 : ∀ j, j ≠ 12 → (wf τ 39 12 (nI N)) 39 j = τ 39 j := fun j hj => by show va_up τ 39 _ 39 j = _; rw [va_up_self, upd_n _ _ hj]
  refine Exists.elim (loop_st (fun n j s => f_X5_draw_L8 sd dy (nI N) (fun s => some ((0 : Int32), s)) n (nI j) s) (fun s => some ((0 : Int32), s)) N (fun j s => s 39 12 = nI N ∧ (∀ i, i < j → s 46 i = dMin sd dy i ∧ s 47 i = nI (ar i) ∧ s 48 i = dRank sd dy i ∧ s 49 i = dLast sd dy i ∧ s 50 i = -1) ∧ (∀ j, j ≠ 12 → s 39 j = τ 39 j) ∧ ∀ k, k ≠ 39 → k < 46 ∨ 52 < k → s k = τ k) ?_ ?_ FU 0 (wf τ 39 12 (nI N)) (Nat.zero_le _) (by unfold FU; omega) ⟨h34, fun i hi => absurd hi (Nat.not_lt_zero i), h35, fun k hk _ => h0 k hk⟩) (fun τ' h => ⟨τ', h.1, h.2.1, h.2.2.1, h.2.2.2.1, h.2.2.2.2⟩)
  · intro n s _
    show f_X5_draw_L8 _ _ _ _ (n + 1) _ s = _
    rw [f_X5_draw_L8, if_pos (nI_le (Nat.le_refl _) (by omega))]
  · intro n j s hj ⟨g1, g2, g3, g4⟩
    have hc : (nI j).toNatClampNeg = j := nI_clamp (by omega)
    obtain ⟨k, hk, ek⟩ := ush4 (du sd dy j)
    obtain ⟨a1, a2, a3⟩ := har j hj k hk ek
    have T' : ∀ s' : St, s' 39 = s 39 → s' 44 = s 44 → TwM s' A w := fun s' q1 q2 => by
      obtain ⟨t1, t2, t4⟩ := T
      refine ⟨t1, ?_, ?_⟩
      · rw [q1, g3 6 (by omega)]; exact t2
      · rw [q2, g4 44 (by omega) (by omega)]; exact t4
    have ea : ∀ s' : St, s' 39 = s 39 → s' 44 = s 44 → f_X5_areaOf (ush (du sd dy j) (4 : Int32)) s' = some (nI (ar j), s') := fun s' q1 q2 => by rw [ek]; exact area_M (T' s' q1 q2) hk a1 a2 a3
    have e1 : mixf ((sd + ((1000003 : Int32) * dy)) + ((31 : Int32) * nI j)) = dv sd dy j := rfl
    have e2 : mixf (dv sd dy j + (1 : Int32)) = dw sd dy j := rfl
    have e3 : mixf (dw sd dy j + (1 : Int32)) = du sd dy j := rfl
    refine ⟨va_up (va_up (va_up (va_up (va_up (va_up (va_up s 46 (upd (s 46) j (dMin sd dy j))) 48 (upd (s 48) j (dRank sd dy j))) 49 (upd (s 49) j (dLast sd dy j))) 47 (upd (s 47) j (nI (ar j)))) 50 (upd (s 50) j (-1))) 51 (upd (s 51) j (-1))) 52 (upd (s 52) j 0), ?_, ?_, ?_, ?_, ?_⟩
    · show f_X5_draw_L8 _ _ _ _ (n + 1) _ s = f_X5_draw_L8 _ _ _ _ n _ _
      rw [f_X5_draw_L8, if_neg (nI_ge hj (by omega))]
      simp only [mix_M, bd_d, e1, e2, e3, ixb_nI (show j < 60 by omega) (by decide), ck_d, wr, hc, lt_d, nI_s]
      rw [ea]
      · simp only [bd_d]
        rfl
      · rfl
      · rfl
    · simp [va_up, g1]
    · intro i hi
      by_cases e : i = j
      · subst e
        simp [va_up, upd]
      · have := g2 i (by omega)
        simpa [va_up, upd, e] using this
    · intro i hi
      have := g3 i hi
      rw [← this]
      simp [va_up]
    · intro k hk hk2
      have := g4 k hk hk2
      rw [← this]
      simp [va_up, show k ≠ 46 by omega, show k ≠ 47 by omega, show k ≠ 48 by omega, show k ≠ 49 by omega, show k ≠ 50 by omega, show k ≠ 51 by omega, show k ≠ 52 by omega]
