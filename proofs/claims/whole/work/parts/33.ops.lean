/-! the calls of the face, one by one, on both sides -/
def Two (σ τ : St) : Prop := ∃ (S A U : Nat) (sx sy ax ay w : Nat → Nat) (p mk : Nat) (st : Nat → Nat → Option Nat) (N : Nat), CfX σ S A U sx sy ax ay w p mk st ∧ CfM τ S A U sx sy ax ay w p mk st ∧ RunR σ τ N
def FrA (σ σ' : St) : Prop := ∀ k, 39 ≤ k → σ' k = σ k
def FrB (τ τ' : St) : Prop := ∀ k, k < 39 → τ' k = τ k
/-- outcomes that agree: a value; or a throw that is the i-th of the list, and i + 1 -/
def Oc (L : List String) (rx : Ex) (th rm : Int32) : Prop := (∃ r, rx = .inl r ∧ th = 0 ∧ rm = r) ∨ ∃ (i : Nat) (e : String), rx = .inr e ∧ L[i]? = some e ∧ th = nI (i + 1)
def Op (L : List String) (fx : St → Option (Ex × St)) (fm : St → Option (Int32 × St)) : Prop := ∀ σ τ, Two σ τ → ∃ rx σ' rm τ', fx σ = some (rx, σ') ∧ fm τ = some (rm, τ') ∧ Two σ' τ' ∧ FrA σ σ' ∧ FrB τ τ' ∧ Oc L rx (τ' 39 0) rm
theorem RunR.keep {σ τ σ' τ' : St} {N : Nat} (R : RunR σ τ N) (h1 : ∀ k, k = 13 ∨ k = 14 ∨ k = 15 ∨ k = 16 ∨ k = 17 ∨ (34 ≤ k ∧ k < 38) → σ' k = σ k) (h2 : ∀ k, 46 ≤ k → k < 55 → τ' k = τ k) (h3 : τ' 39 12 = τ 39 12) (h4 : τ' 39 23 = τ 39 23) : RunR σ' τ' N := by
  obtain ⟨⟨r1, r2, r3⟩, r4, r5, r6⟩ := R
  refine ⟨⟨r1, by rw [h1 34 (by omega)]; exact r2, by rw [h3]; exact r3⟩, fun i hi => ?_, ?_, by rw [h1 13 (by omega), h4]; exact r6⟩
  · unfold CallR
    rw [h1 35 (by omega), h1 36 (by omega), h1 37 (by omega), h1 14 (by omega), h1 15 (by omega), h1 16 (by omega), h2 46 (by omega) (by omega), h2 47 (by omega) (by omega), h2 48 (by omega) (by omega), h2 50 (by omega) (by omega), h2 51 (by omega) (by omega), h2 52 (by omega) (by omega)]
    exact r4 i hi
  · rw [h1 17 (by omega), h2 54 (by omega) (by omega)]; exact r5
theorem Two.x {σ σ' τ : St} (T : Two σ τ) (h : ∀ k, k < 39 → σ' k = σ k) : Two σ' τ := by
  obtain ⟨S, A, U, sx, sy, ax, ay, w, p, mk, st, N, c1, c2, r⟩ := T
  exact ⟨S, A, U, sx, sy, ax, ay, w, p, mk, st, N, c1.keep (fun k hk => h k (by omega)), c2, r.keep (fun k hk => h k (by omega)) (fun _ _ _ => rfl) rfl rfl⟩
theorem Two.m {σ τ τ' : St} (T : Two σ τ) (h : ∀ k, 39 ≤ k → τ' k = τ k) : Two σ τ' := by
  obtain ⟨S, A, U, sx, sy, ax, ay, w, p, mk, st, N, c1, c2, r⟩ := T
  exact ⟨S, A, U, sx, sy, ax, ay, w, p, mk, st, N, c1, c2.keep (fun k h1 h2 => h k (by omega)) (fun j _ _ _ => by rw [h 39 (by omega)]), r.keep (fun _ _ => rfl) (fun k h1 h2 => h k (by omega)) (by rw [h 39 (by omega)]) (by rw [h 39 (by omega)])⟩
def Inv (σ : St) : Prop := Two σ σ
/-- an op done first by the class, then by the reference -/
theorem Op.seq {L : List String} {fx : St → Option (Ex × St)} {fm : St → Option (Int32 × St)} (h : Op L fx fm) {σ : St} (I : Inv σ) : ∃ rx σ1 rm σ2, fx σ = some (rx, σ1) ∧ fm σ1 = some (rm, σ2) ∧ Inv σ2 ∧ Oc L rx (σ2 39 0) rm := by
  obtain ⟨rx, σ1, -, -, e1, -, -, fa, -⟩ := h σ σ I
  obtain ⟨rx', σ1', rm, σ2, e1', e2, T, fa', fb, oc⟩ := h σ σ1 (Two.m I fa)
  rw [e1] at e1'
  cases e1'
  exact ⟨rx, σ1, rm, σ2, e1, e2, T.x fb, oc⟩
theorem thr_0 (σ : St) : f_X5_throwing 0 0 0 σ = some (0, wf σ 39 0 0) := by
  unfold f_X5_throwing
  simp [lt, wf, va_up, upd]
theorem thr_1 (b c : Int32) (σ : St) : f_X5_throwing 1 b c σ = some (1, wf σ 39 0 1) := by
  unfold f_X5_throwing
  simp [lt, wf, va_up, upd]
theorem thr_2 (c : Int32) (σ : St) : f_X5_throwing 0 1 c σ = some (1, wf σ 39 0 2) := by
  unfold f_X5_throwing
  simp [lt, wf, va_up, upd]
theorem thr_3 (σ : St) : f_X5_throwing 0 0 1 σ = some (1, wf σ 39 0 3) := by
  unfold f_X5_throwing
  simp [lt, wf, va_up, upd]
theorem wf0 (σ : St) (x : Int32) : (wf σ 39 0 x) 39 0 = x := by simp [wf, va_up, upd]
theorem wf0n (σ : St) (x : Int32) {j : Nat} (h : j ≠ 0) : (wf σ 39 0 x) 39 j = σ 39 j := by simp [wf, va_up, upd, h]
theorem wf0k (σ : St) (x : Int32) {k : Nat} (h : k ≠ 39) : (wf σ 39 0 x) k = σ k := by simp [wf, va_up, h]
theorem Two.thrown {σ τ : St} (T : Two σ τ) (x : Int32) : Two σ (wf τ 39 0 x) := by
  obtain ⟨S, A, U, sx, sy, ax, ay, w, p, mk, st, N, c1, c2, r⟩ := T
  exact ⟨S, A, U, sx, sy, ax, ay, w, p, mk, st, N, c1, c2.keep (fun k h1 h2 => wf0k τ x (by omega)) (fun j h1 _ _ => wf0n τ x h1), r.keep (fun _ _ => rfl) (fun k h1 h2 => wf0k τ x (by omega)) (wf0n τ x (by decide)) (wf0n τ x (by decide))⟩
/-- refused on both sides: nothing changes but the number -/
theorem Two.refused {σ τ : St} (T : Two σ τ) {L : List String} {i : Nat} {e : String} (he : L[i]? = some e) {x : Int32} (hx : x = nI (i + 1)) (rm : Int32) : ∃ rx σ' rm' τ', some ((.inr e : Ex), σ) = some (rx, σ') ∧ some (rm, wf τ 39 0 x) = some (rm', τ') ∧ Two σ' τ' ∧ FrA σ σ' ∧ FrB τ τ' ∧ Oc L rx (τ' 39 0) rm' :=
  ⟨_, _, _, _, rfl, rfl, T.thrown x, fun _ _ => rfl, fun k hk => wf0k τ x (by omega), Or.inr ⟨i, e, rfl, he, by rw [wf0]; exact hx⟩⟩
theorem below_b (x : Int32) {n : Nat} (hn : n < 2147483648) (σ τ : St) : (f_X4_isBelow x (nI n) σ = some (1, σ) ∧ f_X5_in x 0 (nI n - 1) τ = some (1, τ) ∧ ∃ j, j < n ∧ x = nI j) ∨ (f_X4_isBelow x (nI n) σ = some (0, σ) ∧ f_X5_in x 0 (nI n - 1) τ = some (0, τ)) := by
  unfold f_X4_isBelow f_X5_in
  by_cases h0 : x < 0
  · right; rw [if_pos h0, if_pos h0]; exact ⟨rfl, rfl⟩
  · obtain ⟨j, hj, rfl⟩ := nI_of h0
    rw [if_neg h0, if_neg h0]
    by_cases hlt : j < n
    · left
      rw [if_neg (nI_ge hlt (by omega))]
      rw [if_neg (show ¬ nI n - 1 < nI j by rw [show n = (n - 1) + 1 by omega, nI_pred]; exact nI_nlt (by omega) (by omega))]
      exact ⟨rfl, rfl, j, hlt, rfl⟩
    · right
      rw [if_pos (nI_le (by omega) (by omega))]
      refine ⟨rfl, ?_⟩
      rw [if_pos]
      by_cases hz : n = 0
      · subst hz
        rw [show nI 0 - 1 = (-1 : Int32) by decide, Int32.lt_iff_toInt_lt, nI_toInt hj, show (-1 : Int32).toInt = -1 by decide]
        omega
      · rw [show n = (n - 1) + 1 by omega, nI_pred]
        exact nI_lt (by omega) (by omega)
theorem within_n (x : Int32) (lo hi : Nat) (hh : hi < 2147483648) (hl : lo < 2147483648) (σ τ : St) : (f_X4_isWithin x (nI lo) (nI hi) σ = some (1, σ) ∧ f_X5_in x (nI lo) (nI hi) τ = some (1, τ) ∧ ∃ j, lo ≤ j ∧ j ≤ hi ∧ x = nI j) ∨ (f_X4_isWithin x (nI lo) (nI hi) σ = some (0, σ) ∧ f_X5_in x (nI lo) (nI hi) τ = some (0, τ) ∧ ¬ ∃ j, lo ≤ j ∧ j ≤ hi ∧ x = nI j) := by
  unfold f_X4_isWithin f_X5_in
  by_cases h0 : x < nI lo
  · right
    rw [if_pos h0, if_pos h0]
    refine ⟨rfl, rfl, fun ⟨j, a, b, e⟩ => ?_⟩
    rw [e, nI_ltI (by omega) hl] at h0
    omega
  · rw [if_neg h0, if_neg h0]
    by_cases h1 : nI hi < x
    · right
      rw [if_pos h1, if_pos h1]
      refine ⟨rfl, rfl, fun ⟨j, a, b, e⟩ => ?_⟩
      rw [e, nI_ltI hh (by omega)] at h1
      omega
    · left
      rw [if_neg h1, if_neg h1]
      have hx : ¬ x < 0 := fun z => h0 (by
        rw [Int32.lt_iff_toInt_lt] at z ⊢
        rw [nI_toInt hl]
        rw [Int32.toInt_zero] at z
        omega)
      obtain ⟨j, hj, rfl⟩ := nI_of hx
      refine ⟨rfl, rfl, j, ?_, ?_, rfl⟩
      · rw [nI_ltI hj hl] at h0; omega
      · rw [nI_ltI hh hj] at h1; omega
theorem within_b (x : Int32) (lo hi : Nat) {l h : Int32} (el : l = nI lo) (eh : h = nI hi) (hh : hi < 2147483648) (hl : lo < 2147483648) (σ τ : St) : (f_X4_isWithin x l h σ = some (1, σ) ∧ f_X5_in x l h τ = some (1, τ) ∧ ∃ j, lo ≤ j ∧ j ≤ hi ∧ x = nI j) ∨ (f_X4_isWithin x l h σ = some (0, σ) ∧ f_X5_in x l h τ = some (0, τ) ∧ ¬ ∃ j, lo ≤ j ∧ j ≤ hi ∧ x = nI j) := by
  subst el
  subst eh
  exact within_n x lo hi hh hl σ τ
theorem z10 : ((1 : Int32) = 0) = False := by simp
theorem place_b (x y : Int32) (σ τ : St) : (f_X4_isPlace x y σ = some (1, σ) ∧ f_X5_isSpot x y τ = some (1, τ) ∧ ∃ a b, a < 100 ∧ b < 100 ∧ x = nI a ∧ y = nI b) ∨ (f_X4_isPlace x y σ = some (0, σ) ∧ f_X5_isSpot x y τ = some (0, τ)) := by
  unfold f_X4_isPlace f_X5_isSpot
  have h100 : (100 : Int32) = nI 100 := rfl
  have h99 : (99 : Int32) = nI 100 - 1 := by decide
  rw [h100, h99]
  rcases below_b x (n := 100) (by omega) σ τ with ⟨a1, a2, a, ha, a3⟩ | ⟨a1, a2⟩
  · rw [a1, a2, bd_d, bd_d, if_neg (by decide), if_neg (by decide)]
    rcases below_b y (n := 100) (by omega) σ τ with ⟨b1, b2, b, hb, b3⟩ | ⟨b1, b2⟩
    · left
      rw [b1, b2, bd_d, bd_d, if_neg (by decide), if_neg (by decide)]
      exact ⟨rfl, rfl, a, b, ha, hb, a3, b3⟩
    · right
      rw [b1, b2, bd_d, bd_d, if_pos rfl, if_pos rfl]
      exact ⟨rfl, rfl⟩
  · right
    rw [a1, a2, bd_d, bd_d, if_pos rfl, if_pos rfl]
    exact ⟨rfl, rfl⟩
theorem rg_0 (σ : St) : f_X4_needRange 0 σ = some (.inr "java/lang/IndexOutOfBoundsException", σ) := rfl
theorem rg_1 (σ : St) : f_X4_needRange 1 σ = some (.inl 0, σ) := rfl
theorem kn_0 (σ : St) : f_X4_needKnown 0 σ = some (.inr "java/lang/IllegalArgumentException", σ) := rfl
theorem kn_1 (σ : St) : f_X4_needKnown 1 σ = some (.inl 0, σ) := rfl
theorem sa_0 (σ : St) : f_X4_needState 0 σ = some (.inr "java/lang/IllegalStateException", σ) := rfl
theorem sa_1 (σ : St) : f_X4_needState 1 σ = some (.inl 0, σ) := rfl
theorem ro_0 (σ : St) : f_X4_needRoom 0 σ = some (.inr "java/lang/UnsupportedOperationException", σ) := rfl
theorem ro_1 (σ : St) : f_X4_needRoom 1 σ = some (.inl 0, σ) := rfl
theorem op_rules (a b : Int32) : Op ["java/lang/IndexOutOfBoundsException"] (f_X4_rules a b) (f_X5_rules a b) := by
  intro σ τ T
  unfold f_X4_rules f_X5_rules
  rcases within_b a 1 9 (l := 1) (h := 9) rfl rfl (by omega) (by omega) σ τ with ⟨e1, e2, p, hp1, hp2, hp⟩ | ⟨e1, e2, -⟩
  · rcases within_b b 0 1000 (l := 0) (h := 1000) rfl rfl (by omega) (by omega) σ τ with ⟨e3, e4, q, -, hq2, hq⟩ | ⟨e3, e4, -⟩
    · simp only [lt_d, e1, e2, e3, e4, bd_d, z10, if_true, if_false, rg_1, bx_l, thr_0]
      refine ⟨_, _, _, _, rfl, rfl, ?_, fun k hk => ?_, fun k hk => ?_, Or.inl ⟨_, rfl, ?_, rfl⟩⟩
      · obtain ⟨S, A, U, sx, sy, ax, ay, w, p0, mk0, st, N, c1, c2, r⟩ := T
        obtain ⟨⟨g1, g2, g3, -, -, -⟩, ⟨x1, x2, x3, -, -, x6⟩, x7, x8, x9⟩ := c1
        obtain ⟨⟨y1, y2, y3, -, -⟩, y4, y5, y6⟩ := c2
        obtain ⟨σ', hσ⟩ : ∃ z, z = wf (wf σ 0 3 a) 0 4 b := ⟨_, rfl⟩
        obtain ⟨τ', hτ⟩ : ∃ z, z = wf (wf (wf τ 39 0 0) 39 1 a) 39 2 b := ⟨_, rfl⟩
        have k1 : ∀ k, k ≠ 0 → σ' k = σ k := fun k hk => by rw [hσ]; simp [wf, va_up, hk]
        have k2 : ∀ k, k ≠ 39 → τ' k = τ k := fun k hk => by rw [hτ]; simp [wf, va_up, hk]
        have k3 : ∀ j, j ≠ 0 → j ≠ 1 → j ≠ 2 → τ' 39 j = τ 39 j := fun j h1 h2 h3 => by rw [hτ]; simp [wf, va_up, upd, h1, h2, h3]
        rw [← hσ, ← hτ]
        refine ⟨S, A, U, sx, sy, ax, ay, w, p, q, st, N, ⟨⟨g1, g2, g3, hp1, hp2, hq2⟩, ⟨?_, ?_, ?_, ?_, ?_, ?_⟩, ?_, ?_, fun v u hv hu => ?_⟩, ⟨⟨?_, ?_, ?_, ?_, ?_⟩, ?_, ?_, ?_⟩, r.keep (fun k hk => k1 k (by omega)) (fun k h1 h2 => k2 k (by omega)) (k3 12 (by decide) (by decide) (by decide)) (k3 23 (by decide) (by decide) (by decide))⟩
        · rw [k1 1 (by decide)]; exact x1
        · rw [k1 1 (by decide)]; exact x2
        · rw [k1 7 (by decide)]; exact x3
        · rw [hσ, hp]; simp [wf, va_up, upd]
        · rw [hσ, hq]; simp [wf, va_up, upd]
        · rw [k1 1 (by decide)]; exact x6
        · rw [k1 2 (by decide), k1 3 (by decide)]; exact x7
        · rw [k1 4 (by decide), k1 5 (by decide), k1 6 (by decide)]; exact x8
        · rw [k1 (9 + v) (by omega)]; exact x9 v u hv hu
        · rw [k3 3 (by decide) (by decide) (by decide)]; exact y1
        · rw [k3 6 (by decide) (by decide) (by decide)]; exact y2
        · rw [k3 10 (by decide) (by decide) (by decide)]; exact y3
        · rw [hτ, hp]; simp [wf, va_up, upd]
        · rw [hτ, hq]; simp [wf, va_up, upd]
        · rw [k2 40 (by decide), k2 41 (by decide)]; exact y4
        · rw [k2 42 (by decide), k2 43 (by decide), k2 44 (by decide)]; exact y5
        · rw [k2 45 (by decide)]; exact y6
      · simp [wf, va_up, show ¬ k = 0 by omega]
      · simp [wf, va_up, show ¬ k = 39 by omega]
      · simp [wf, va_up, upd]
    · simp only [lt_d, e1, e2, e3, e4, bd_d, z10, if_true, if_false, rg_0, bx_r, thr_1]
      exact T.refused (i := 0) rfl rfl _
  · simp only [lt_d, e1, e2, bd_d, z10, if_true, if_false, rg_0, bx_r, thr_1]
    exact T.refused (i := 0) rfl rfl _
