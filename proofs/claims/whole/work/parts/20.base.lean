/-! pure rows: the walk's functions on numbers -/
theorem rd_nI {σ : St} {k j : Nat} (h : j < 2147483648) : rd σ k (nI j) = σ k j := by
  show σ k (nI j).toNatClampNeg = σ k j
  rw [nI_clamp h]
theorem wr_nI {σ : St} {k j : Nat} {x : Int32} (h : j < 2147483648) : wr σ k (nI j) x = va_up σ k (upd (σ k) j x) := by
  show va_up σ k (upd (σ k) (nI j).toNatClampNeg x) = _
  rw [nI_clamp h]
theorem ixb_nI {j n : Nat} (h : j < n) (hn : n < 2147483648) : ixb (nI j) n = true := by
  unfold ixb
  rw [nI_toInt (by omega)]
  exact decide_eq_true ⟨by omega, by omega⟩
theorem lt_d {α β : Type} {x : α} {k : α → β} : lt x k = k x := rfl
theorem bd_d {α β : Type} {a : α} {σ : St} {k : α → St → Option β} : bd (some (a, σ)) k = k a σ := rfl
theorem bx_l {a : Int32} {σ : St} {k : Int32 → St → Option (Ex × St)} : bx (some (.inl a, σ)) k = k a σ := rfl
theorem bx_r {a : String} {σ : St} {k : Int32 → St → Option (Ex × St)} : bx (some (.inr a, σ)) k = some (.inr a, σ) := rfl
theorem ck_d {α : Type} {k : Option α} : ck true k = k := rfl
theorem nI_s (j : Nat) : nI j + (1 : Int32) = nI (j + 1) := nI_1 j
theorem i0 (x : Int32) : x + (0 : Int32) = x := by rw [Int32.add_zero]
/-- counting, picking -/
def cnt (P : Nat → Bool) : Nat → Nat
  | 0 => 0
  | n + 1 => cnt P n + (if P n then 1 else 0)
theorem cnt_le (P : Nat → Bool) : ∀ n, cnt P n ≤ n
  | 0 => Nat.le_refl 0
  | n + 1 => by
    have := cnt_le P n
    show cnt P n + (if P n then 1 else 0) ≤ n + 1
    split <;> omega
theorem cnt_congr {P Q : Nat → Bool} : ∀ n, (∀ i, i < n → P i = Q i) → cnt P n = cnt Q n
  | 0, _ => rfl
  | n + 1, h => by
    show cnt P n + _ = cnt Q n + _
    rw [cnt_congr n (fun i hi => h i (by omega)), h n (by omega)]
def pick (P : Nat → Bool) (B : Nat → Nat → Bool) : Nat → Option Nat
  | 0 => none
  | n + 1 => match pick P B n with
    | none => if P n then some n else none
    | some b => if P n && B n b then some n else some b
theorem pick_congr {P Q : Nat → Bool} {B C : Nat → Nat → Bool} : ∀ n, (∀ i, i < n → P i = Q i) → (∀ i b, i < n → b < n → B i b = C i b) → pick P B n = pick Q C n ∧ ∀ b, pick P B n = some b → b < n
  | 0, _, _ => ⟨rfl, fun b h => by cases h⟩
  | n + 1, h, g => by
    obtain ⟨h1, h2⟩ := pick_congr n (fun i hi => h i (by omega)) (fun i b hi hb => g i b (by omega) (by omega))
    have hn := h n (by omega)
    constructor
    · show (match pick P B n with | none => if P n then some n else none | some b => if P n && B n b then some n else some b) = (match pick Q C n with | none => if Q n then some n else none | some b => if Q n && C n b then some n else some b)
      rw [← h1, ← hn]
      cases hp : pick P B n with
      | none => rfl
      | some b => show (if P n && B n b then some n else some b) = (if P n && C n b then some n else some b); rw [g n b (by omega) (by have := h2 b hp; omega)]
    · intro b hb
      change (match pick P B n with | none => if P n then some n else none | some b => if P n && B n b then some n else some b) = some b at hb
      cases hp : pick P B n with
      | none =>
        rw [hp] at hb
        change (if P n then some n else none) = some b at hb
        split at hb
        · cases hb; omega
        · cases hb
      | some c =>
        rw [hp] at hb
        have := h2 c hp
        change (if P n && B n c then some n else some c) = some b at hb
        split at hb <;> cases hb <;> omega
theorem pick_lt {P : Nat → Bool} {B : Nat → Nat → Bool} {n b : Nat} (h : pick P B n = some b) : b < n := (pick_congr (Q := P) (C := B) n (fun _ _ => rfl) (fun _ _ _ _ => rfl)).2 b h
theorem pick_P {P : Nat → Bool} {B : Nat → Nat → Bool} : ∀ {n b : Nat}, pick P B n = some b → P b = true
  | 0, b, h => by cases h
  | n + 1, b, h => by
    change (match pick P B n with | none => if P n then some n else none | some b => if P n && B n b then some n else some b) = some b at h
    cases hp : pick P B n with
    | none =>
      rw [hp] at h
      change (if P n then some n else none) = some b at h
      split at h
      · cases h; assumption
      · cases h
    | some c =>
      rw [hp] at h
      change (if P n && B n c then some n else some c) = some b at h
      split at h
      · rename_i hc
        cases h
        exact (Bool.and_eq_true_iff.mp hc).1
      · cases h
        exact pick_P hp
theorem pick_none {P : Nat → Bool} {B : Nat → Nat → Bool} : ∀ {n : Nat}, pick P B n = none → ∀ i, i < n → P i = false
  | 0, _, i, hi => absurd hi (Nat.not_lt_zero i)
  | n + 1, h, i, hi => by
    change (match pick P B n with | none => if P n then some n else none | some b => if P n && B n b then some n else some b) = none at h
    cases hp : pick P B n with
    | none =>
      rw [hp] at h
      change (if P n then some n else none) = none at h
      by_cases e : i = n
      · subst e
        cases hP : P i with
        | false => rfl
        | true => rw [hP] at h; cases h
      · exact pick_none hp i (by omega)
    | some c =>
      rw [hp] at h
      change (if P n && B n c then some n else some c) = none at h
      split at h <;> cases h
def enc : Option Nat → Int32
  | none => -1
  | some i => nI i
theorem loop_v {α β : Type} (F : Nat → Nat → α → β) (K : α → β) (N : Nat) (v : Nat → α) (hx : ∀ n, F (n + 1) N (v N) = K (v N)) (hs : ∀ n j, j < N → F (n + 1) j (v j) = F n (j + 1) (v (j + 1))) : ∀ n j, j ≤ N → N - j < n → F n j (v j) = K (v N) := by
  intro n
  induction n with
  | zero => intro j _ h; omega
  | succ n ih =>
    intro j hj hn
    by_cases e : j = N
    · subst e; exact hx n
    · rw [hs n j (by omega)]; exact ih (j + 1) (by omega) (by omega)
/-- the class's side, read only -/
def lateC (σ : St) (mk : Int32) (i : Nat) : Bool := decide (σ 14 i = -1) || !decide (σ 16 i - σ 35 i ≤ mk)
theorem delay_X {σ : St} {i : Nat} (h : i < 60) : f_X2_delay (nI i) σ = some (if σ 14 i = -1 then -1 else σ 16 i - σ 35 i, σ) := by
  unfold f_X2_delay
  have hc : (nI i).toNatClampNeg = i := nI_clamp (by omega)
  simp only [ixb_nI h (by decide), rd, hc, ck_d]
  split <;> rfl
theorem isLate_X {σ : St} {i : Nat} (mk : Int32) (h : i < 60) : f_X2_isLate (nI i) mk σ = some (if lateC σ mk i then 1 else 0, σ) := by
  unfold f_X2_isLate
  rw [delay_X h]
  have hc : (nI i).toNatClampNeg = i := nI_clamp (by omega)
  simp only [ixb_nI h (by decide), rd, hc, ck_d, bd_d]
  by_cases h1 : σ 14 i = -1
  · simp [h1, lateC]
  · by_cases h2 : σ 16 i - σ 35 i ≤ mk <;> simp [h1, h2, lateC]
theorem countLate_X {σ : St} {N : Nat} (mk : Int32) (hN : σ 34 4 = nI N) (h60 : N ≤ 60) : f_X2_countLate mk σ = some (nI (cnt (lateC σ mk) N), σ) := by
  unfold f_X2_countLate
  refine loop_v (fun n j a => f_X2_countLate_L4 mk (fun y s => some (y, s)) n a (nI j) σ) (fun a => some (a, σ)) N (fun j => nI (cnt (lateC σ mk) j)) ?_ ?_ FU 0 (Nat.zero_le _) (by unfold FU; omega)
  · intro n
    show f_X2_countLate_L4 _ _ (n + 1) _ _ σ = _
    rw [f_X2_countLate_L4, hN, if_pos (nI_le (Nat.le_refl _) (by omega))]
  · intro n j hj
    show f_X2_countLate_L4 _ _ (n + 1) _ _ σ = f_X2_countLate_L4 _ _ n _ _ σ
    rw [f_X2_countLate_L4, hN, if_neg (nI_ge hj (by omega)), isLate_X mk (by omega), bd_d]
    have hc : cnt (lateC σ mk) (j + 1) = cnt (lateC σ mk) j + (if lateC σ mk j then 1 else 0) := rfl
    by_cases hl : lateC σ mk j = true
    · simp only [hl, if_true, lt_d, nI_s, hc]
      rw [if_neg (by decide)]
    · simp only [hl, lt_d, nI_s, hc]
      rfl

def serv (a : Nat → Int32) (i : Nat) : Bool := !decide (a i = -1)
theorem countServed_X {σ : St} {N : Nat} (hN : σ 34 4 = nI N) (h60 : N ≤ 60) : f_X2_countServed σ = some (nI (cnt (serv (σ 14)) N), σ) := by
  unfold f_X2_countServed
  refine loop_v (fun n j a => f_X2_countServed_L4 (fun y s => some (y, s)) n a (nI j) σ) (fun a => some (a, σ)) N (fun j => nI (cnt (serv (σ 14)) j)) ?_ ?_ FU 0 (Nat.zero_le _) (by unfold FU; omega)
  · intro n
    show f_X2_countServed_L4 _ (n + 1) _ _ σ = _
    rw [f_X2_countServed_L4, hN, if_pos (nI_le (Nat.le_refl _) (by omega))]
  · intro n j hj
    show f_X2_countServed_L4 _ (n + 1) _ _ σ = f_X2_countServed_L4 _ n _ _ σ
    have hc : (nI j).toNatClampNeg = j := nI_clamp (by omega)
    rw [f_X2_countServed_L4, hN, if_neg (nI_ge hj (by omega)), ixb_nI (by omega) (by decide), ck_d]
    have hk : cnt (serv (σ 14)) (j + 1) = cnt (serv (σ 14)) j + (if serv (σ 14) j then 1 else 0) := rfl
    by_cases hl : σ 14 j = -1
    · simp only [rd, hc, hl, if_true, lt_d, nI_s, hk, serv, decide_true, Bool.not_true]
      rfl
    · simp only [rd, hc, hl, if_false, lt_d, nI_s, hk, serv, decide_false, Bool.not_false, if_true]
def arrC (a b : Nat → Int32) (t : Int32) (i : Nat) : Bool := !decide (a i = -1) && !decide (t < b i)
theorem countArrived_X {σ : St} {N : Nat} (t : Int32) (hN : σ 34 4 = nI N) (h60 : N ≤ 60) : f_X2_countArrivedBy t σ = some (nI (cnt (arrC (σ 14) (σ 16) t) N), σ) := by
  unfold f_X2_countArrivedBy
  refine loop_v (fun n j a => f_X2_countArrivedBy_L4 t (fun y s => some (y, s)) n a (nI j) σ) (fun a => some (a, σ)) N (fun j => nI (cnt (arrC (σ 14) (σ 16) t) j)) ?_ ?_ FU 0 (Nat.zero_le _) (by unfold FU; omega)
  · intro n
    show f_X2_countArrivedBy_L4 _ _ (n + 1) _ _ σ = _
    rw [f_X2_countArrivedBy_L4, hN, if_pos (nI_le (Nat.le_refl _) (by omega))]
  · intro n j hj
    show f_X2_countArrivedBy_L4 _ _ (n + 1) _ _ σ = f_X2_countArrivedBy_L4 _ _ n _ _ σ
    have hc : (nI j).toNatClampNeg = j := nI_clamp (by omega)
    rw [f_X2_countArrivedBy_L4, hN, if_neg (nI_ge hj (by omega)), ixb_nI (by omega) (by decide)]
    simp only [ck_d, rd, hc, lt_d, nI_s]
    have hk : cnt (arrC (σ 14) (σ 16) t) (j + 1) = cnt (arrC (σ 14) (σ 16) t) j + (if arrC (σ 14) (σ 16) t j then 1 else 0) := rfl
    by_cases hl : σ 14 j = -1
    · have e : arrC (σ 14) (σ 16) t j = false := by simp [arrC, hl]
      rw [if_pos hl, hk, e]; rfl
    · by_cases h2 : t < σ 16 j
      · have e : arrC (σ 14) (σ 16) t j = false := by simp [arrC, h2]
        rw [if_neg hl, if_pos h2, hk, e]; rfl
      · have e : arrC (σ 14) (σ 16) t j = true := by simp [arrC, hl, h2]
        rw [if_neg hl, if_neg h2, hk, e]; rfl
