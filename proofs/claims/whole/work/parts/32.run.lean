section RN
variable {σ τ : St} {S A U : Nat} {sx sy ax ay w : Nat → Nat} {p mk : Nat} {st : Nat → Nat → Option Nat}
theorem books_M (C : CfM τ S A U sx sy ax ay w p mk st) (hU : U ≤ 12) {v : Nat} (hv : v < 4) (hS : ∀ u s, u < U → st v u = some s → s < 6) (K : Int32 → St → Option (Int32 × St)) :
    ∃ τ', f_X5_play_L14 (nI v) K FU (0 : Int32) (0 : Int32) τ = K (nI (many U (fun u => (st v u).isNone))) τ' ∧ (∀ u, u < 12 → τ' 53 u = 0 ∧ τ' 54 u = 0) ∧ ∀ k, k ≠ 53 → k ≠ 54 → τ' k = τ k := by
  obtain ⟨Q, hQ⟩ : ∃ Q : Nat → Bool, Q = fun u => decide (u < U) && !(st v u).isNone := ⟨_, rfl⟩
  have e0 : cnt Q 12 = many U (fun u => (st v u).isNone) := by
    have h1 := cnt_ext (P := Q) U (12 - U) (fun i a b => by rw [hQ]; simp; omega)
    rw [show U + (12 - U) = 12 by omega] at h1
    rw [h1]
    unfold many
    refine cnt_congr U (fun u hu => ?_)
    rw [hQ]
    simp [hu]
  refine Exists.elim (loop_st (fun n j z => f_X5_play_L14 (nI v) K n (nI (cnt Q j)) (nI j) z) (fun z => K (nI (cnt Q 12)) z) 12 (fun j z => (∀ u, u < j → z 53 u = 0 ∧ z 54 u = 0) ∧ ∀ k, k ≠ 53 → k ≠ 54 → z k = τ k) ?_ ?_ FU 0 τ (Nat.zero_le _) (by unfold FU; omega) ⟨fun u hu => absurd hu (Nat.not_lt_zero u), fun _ _ _ => rfl⟩) (fun τ' h => ⟨τ', by rw [← e0]; exact h.1, h.2.1, h.2.2⟩)
  · intro n z _
    show f_X5_play_L14 _ _ (n + 1) _ _ z = _
    rw [f_X5_play_L14, if_pos (show (12 : Int32) ≤ nI 12 from nI_le (a := 12) (Nat.le_refl _) (by omega))]
  · intro n j z hj ⟨z1, z2⟩
    have hcj : (nI j).toNatClampNeg = j := nI_clamp (by omega)
    have hcv : (nI (12 * v + j)).toNatClampNeg = 12 * v + j := nI_clamp (by omega)
    obtain ⟨z', hz'⟩ : ∃ z', z' = va_up (va_up z 53 (upd (z 53) j 0)) 54 (upd (z 54) j 0) := ⟨_, rfl⟩
    have k39 : z' 39 10 = nI U := by
      rw [hz', va_up_ne _ _ (by decide), va_up_ne _ _ (by decide), z2 39 (by decide) (by decide)]
      exact C.1.2.2.1
    have k45 : j < U → z' 45 (12 * v + j) = enc (st v j) := fun h => by
      rw [hz', va_up_ne _ _ (by decide), va_up_ne _ _ (by decide), z2 45 (by decide) (by decide)]
      exact C.2.2.2 v j hv h
    refine ⟨z', ?_, ?_, ?_⟩
    · show f_X5_play_L14 _ _ (n + 1) _ _ z = f_X5_play_L14 _ _ n _ _ _
      rw [f_X5_play_L14, if_neg (show ¬ (12 : Int32) ≤ nI j from nI_ge (b := 12) hj (by omega))]
      simp only [ixb_nI hj (by decide), ck_d, wr, hcj, lt_d]
      rw [show va_up (va_up z 53 (upd (z 53) j 0)) 54 (upd (va_up z 53 (upd (z 53) j 0) 54) j 0) = z' by rw [hz', va_up_ne z _ (show 54 ≠ 53 by decide)]]
      rw [k39, cnt_s]
      by_cases hu : U ≤ j
      · rw [if_pos (nI_le hu (by omega))]
        have : Q j = false := by rw [hQ]; simp; omega
        simp only [this, i0, nI_s]
        rfl
      · rw [if_neg (nI_ge (by omega) (by omega)), i12, ixb_nI (show 12 * v + j < 48 by omega) (by decide), ck_d]
        simp only [rd, hcv, k45 (by omega), i0, nI_s]
        cases hs : st v j with
        | none =>
          have : Q j = false := by rw [hQ]; simp [hs]
          rw [if_pos (show enc none < (0 : Int32) by decide), this]
          rfl
        | some s =>
          have : Q j = true := by rw [hQ]; simp [hs]; omega
          have hss : ¬ enc (some s) < (0 : Int32) := nI_nneg (by have := hS j s (by omega) hs; omega)
          rw [if_neg hss, this]
          rfl
    · intro u hu
      rw [hz']
      by_cases e : u = j
      · subst e; simp [va_up, upd]
      · have := z1 u (by omega)
        simpa [va_up, upd, e] using this
    · intro k k1 k2
      rw [hz', va_up_ne _ _ k2, va_up_ne _ _ k1]; exact z2 k k1 k2
theorem zero_M (K : St → Option (Int32 × St)) (b1 b5 : Int32) (τ : St) : ∃ τ', f_X5_play_L80 b1 b5 K FU (0 : Int32) τ = K τ' ∧ (∀ m, m < 1440 → τ' 55 m = 0) ∧ ∀ k, k ≠ 55 → τ' k = τ k := by
  refine Exists.elim (loop_st (fun n j z => f_X5_play_L80 b1 b5 K n (nI j) z) K 1440 (fun j z => (∀ u, u < j → z 55 u = 0) ∧ ∀ k, k ≠ 55 → z k = τ k) ?_ ?_ FU 0 τ (Nat.zero_le _) (by unfold FU; omega) ⟨fun u hu => absurd hu (Nat.not_lt_zero u), fun _ _ => rfl⟩) (fun τ' h => ⟨τ', h.1, h.2.1, h.2.2⟩)
  · intro n z _
    show f_X5_play_L80 _ _ _ (n + 1) _ z = _
    rw [f_X5_play_L80, if_pos (show (1440 : Int32) ≤ nI 1440 from nI_le (a := 1440) (Nat.le_refl _) (by omega))]
  · intro n j z hj ⟨z1, z2⟩
    have hcj : (nI j).toNatClampNeg = j := nI_clamp (by omega)
    refine ⟨va_up z 55 (upd (z 55) j 0), ?_, ?_, ?_⟩
    · show f_X5_play_L80 _ _ _ (n + 1) _ z = f_X5_play_L80 _ _ _ n _ _
      rw [f_X5_play_L80, if_neg (show ¬ (1440 : Int32) ≤ nI j from nI_ge (b := 1440) hj (by omega))]
      simp only [ixb_nI hj (by decide), ck_d, wr, hcj, lt_d, nI_s]
    · intro i hi
      by_cases e : i = j
      · subst e; simp [va_up, upd]
      · have := z1 i (by omega)
        simpa [va_up, upd, e] using this
    · intro k k1
      rw [va_up_ne _ _ k1]; exact z2 k k1
theorem miss_M (k : Nat) (τ : St) : ∃ τ', f_X5_play_L205 (nI k) (fun s => some ((0 : Int32), s)) FU (0 : Int32) (wf τ 39 23 (0 : Int32)) = some (0, τ') ∧ τ' 39 23 = nI (cnt (isM τ k) 1440) ∧ (∀ j, j ≠ 23 → τ' 39 j = τ 39 j) ∧ ∀ q, q ≠ 39 → τ' q = τ q := by
  refine Exists.elim (loop_st (fun n j z => f_X5_play_L205 (nI k) (fun s => some ((0 : Int32), s)) n (nI j) z) (fun s => some ((0 : Int32), s)) 1440 (fun j z => z 39 23 = nI (cnt (isM τ k) j) ∧ (∀ j, j ≠ 23 → z 39 j = τ 39 j) ∧ ∀ q, q ≠ 39 → z q = τ q) ?_ ?_ FU 0 (wf τ 39 23 (0 : Int32)) (Nat.zero_le _) (by unfold FU; omega) ⟨by simp [wf, va_up, upd, cnt, nI_0], fun j hj => by simp [wf, va_up, upd, hj], fun q hq => by simp [wf, va_up, hq]⟩) (fun τ' h => ⟨τ', h.1, h.2.1, h.2.2.1, h.2.2.2⟩)
  · intro n z _
    show f_X5_play_L205 _ _ (n + 1) _ z = _
    rw [f_X5_play_L205, if_pos (show (1440 : Int32) ≤ nI 1440 from nI_le (a := 1440) (Nat.le_refl _) (by omega))]
  · intro n j z hj ⟨z1, z2, z3⟩
    have hcj : (nI j).toNatClampNeg = j := nI_clamp (by omega)
    have h55 : z 55 j = τ 55 j := by rw [z3 55 (by decide)]
    by_cases e : τ 55 j = nI k
    · refine ⟨wf z 39 23 (z 39 23 + 1), ?_, ?_, ?_, ?_⟩
      · show f_X5_play_L205 _ _ (n + 1) _ z = f_X5_play_L205 _ _ n _ _
        rw [f_X5_play_L205, if_neg (show ¬ (1440 : Int32) ≤ nI j from nI_ge (b := 1440) hj (by omega))]
        simp only [ixb_nI hj (by decide), ck_d, rd, hcj, lt_d, nI_s, h55]
        rw [if_pos e]
      · rw [cnt_s, show isM τ k j = true from decide_eq_true e]
        simp [wf, va_up, upd, z1, nI_1]
      · intro q hq
        simp [wf, va_up, upd, hq, z2 q hq]
      · intro q hq
        simp [wf, va_up, hq, z3 q hq]
    · refine ⟨wf z 39 23 (z 39 23 + 0), ?_, ?_, ?_, ?_⟩
      · show f_X5_play_L205 _ _ (n + 1) _ z = f_X5_play_L205 _ _ n _ _
        rw [f_X5_play_L205, if_neg (show ¬ (1440 : Int32) ≤ nI j from nI_ge (b := 1440) hj (by omega))]
        simp only [ixb_nI hj (by decide), ck_d, rd, hcj, lt_d, nI_s, h55]
        rw [if_neg e]
      · rw [cnt_s, show isM τ k j = false from decide_eq_false e]
        simp [wf, va_up, upd, z1]
      · intro q hq
        simp [wf, va_up, upd, hq, z2 q hq]
      · intro q hq
        simp [wf, va_up, hq, z3 q hq]
/-- what both sides tell of a run -/
def CallR (σ τ : St) (i : Nat) : Prop := (σ 35 i = τ 46 i ∧ σ 36 i = τ 47 i ∧ σ 37 i = τ 48 i ∧ σ 14 i = τ 50 i) ∧ ∃ m, m < 1440 ∧ σ 35 i = nI m ∧ (σ 14 i = -1 ∨ ((∃ u, u < 12 ∧ σ 14 i = nI u) ∧ σ 15 i = τ 52 i ∧ σ 16 i = τ 51 i ∧ ∃ t, σ 16 i = nI t ∧ m ≤ t ∧ t ≤ 61440))
def RunR (σ τ : St) (N : Nat) : Prop := (N ≤ 60 ∧ σ 34 4 = nI N ∧ τ 39 12 = nI N) ∧ (∀ i, i < N → CallR σ τ i) ∧ (∀ u, u < 12 → σ 17 u = τ 54 u) ∧ σ 13 10 = τ 39 23
theorem run_both (CX : CfX σ S A U sx sy ax ay w p mk st) (CM : CfM τ S A U sx sy ax ay w p mk st) {v N : Nat} (hv : v < 4) (h60 : N ≤ 60) (hNA : N = 0 ∨ 0 < A) (sd dy : Int32) :
    ∃ σ' τ', f_X4_lateOn (nI v) sd dy (nI N) σ = some (nI (cnt (lateC σ' (nI mk)) N), σ') ∧ f_X5_play (nI v) sd dy (nI N) τ = some (0, τ') ∧ RunR σ' τ' N ∧ (∀ k, k < 13 ∨ 38 < k → σ' k = σ k) ∧ (∀ j, j ≠ 12 → j ≠ 23 → τ' 39 j = τ 39 j) ∧ ∀ k, k ≠ 39 → k < 46 ∨ 55 < k → τ' k = τ k := by
  have CX0 := CX
  obtain ⟨⟨g1, g2, g3, g4, g5, g6⟩, ⟨x1, x2, x3, x4, x5, x6⟩, hst, har0, hun⟩ := CX
  obtain ⟨⟨y1, y2, y3, y4, y5⟩, hstM, harM, hunM⟩ := CM
  have TX : TwX σ A w := ⟨g2, x2, x6, fun a ha => ⟨(har0 a ha).2.2.1, (har0 a ha).2.2.2.2.2.1, (har0 a ha).2.2.2.2.2.2⟩⟩
  have TM : TwM τ A w := ⟨g2, y2, fun a ha => ⟨(harM a ha).2.2, (har0 a ha).2.2.2.2.2.1, (har0 a ha).2.2.2.2.2.2⟩⟩
  have hex : ∀ i : Nat, ∃ a : Nat, i < N → ∀ k, k < 268435456 → ush (du sd dy i) (4 : Int32) = nI k → a < A ∧ psum w a ≤ k % psum w A ∧ k % psum w A < psum w (a + 1) := by
    intro i
    by_cases hi : i < N
    · obtain ⟨k0, hk0, e0⟩ := ush4 (du sd dy i)
      have hpos : 0 < psum w A := by
        have h1 := psum_le w (a := 1) (b := A) (by omega)
        have h2 : psum w 1 = 0 + w 0 := rfl
        have h3 := (har0 0 (by omega)).2.2.2.2.2.1
        omega
      obtain ⟨a, a1, a2, a3⟩ := psum_find w (k0 % psum w A) A (Nat.mod_lt _ hpos)
      refine ⟨a, fun _ k hk e => ?_⟩
      have : k = k0 := (nI_eq (by omega) (by omega)).mp (e.symm.trans e0)
      subst this
      exact ⟨a1, a2, a3⟩
    · exact ⟨0, fun h => absurd h hi⟩
  obtain ⟨ar, har⟩ := Classical.axiomOfChoice hex
  obtain ⟨mi, hmi⟩ : ∃ mi : Nat → Nat, ∀ i, mi i < 1440 ∧ dMin sd dy i = nI (mi i) := Classical.axiomOfChoice (r := fun i m => m < 1440 ∧ dMin sd dy i = nI m) (fun i => dMin_n sd dy i)
  obtain ⟨la, hla⟩ : ∃ la : Nat → Nat, ∀ i, 10 ≤ la i ∧ la i ≤ 99 ∧ dLast sd dy i = nI (la i) := Classical.axiomOfChoice (r := fun i l => 10 ≤ l ∧ l ≤ 99 ∧ dLast sd dy i = nI l) (fun i => dLast_n sd dy i)
  obtain ⟨σ1, e1, a1, a2, a3⟩ := draw_X sd dy TX h60 har
  have CX1 : CfX σ1 S A U sx sy ax ay w p mk st := CX0.keep (fun k hk => a3 k (by omega))
  obtain ⟨σ2, e2, b1, b2, b3, b4, b5, b6⟩ := begin_X CX1 hv
  obtain ⟨τ1, f1, c1, c2, c3, c4⟩ := draw_M sd dy TM h60 har
  have CM0 : CfM τ S A U sx sy ax ay w p mk st := ⟨⟨y1, y2, y3, y4, y5⟩, hstM, harM, hunM⟩
  have CM1 : CfM τ1 S A U sx sy ax ay w p mk st := CM0.keep (fun k h1 h2 => c4 k (by omega) (by omega)) (fun j _ h2 _ => c3 j h2)
  obtain ⟨KL, hKL⟩ : ∃ KL : St → Option (Int32 × St), KL = fun z => lt (wf z 39 23 (0 : Int32)) (fun z => f_X5_play_L205 (nI (many U (fun u => (st v u).isNone))) (fun z => some ((0 : Int32), z)) FU (0 : Int32) z) := ⟨_, rfl⟩
  obtain ⟨τ2, f2, d1, d2⟩ := books_M CM1 g3 hv (fun u s hu hs => by have := (hun v u hv hu).2 s hs; omega) (fun y z => f_X5_play_L80 (nI v) y (fun z => f_X5_play_L105 (nI v) y (fun z => lt (wf z 39 23 (0 : Int32)) (fun z => f_X5_play_L205 y (fun z => some ((0 : Int32), z)) FU (0 : Int32) z)) FU (0 : Int32) z) FU (0 : Int32) z)
  obtain ⟨τ3, f3, i1, i2⟩ := zero_M (fun z => f_X5_play_L105 (nI v) (nI (many U (fun u => (st v u).isNone))) KL FU (0 : Int32) z) (nI v) (nI (many U (fun u => (st v u).isNone))) τ2
  have k3 : ∀ k, k ≠ 53 → k ≠ 54 → k ≠ 55 → τ3 k = τ1 k := fun k h1 h2 h3 => by rw [i2 k h3, d2 k h1 h2]
  have CM3 : CfM τ3 S A U sx sy ax ay w p mk st := CM1.keep (fun k h1 h2 => k3 k (by omega) (by omega) (by omega)) (fun j _ _ _ => by rw [k3 39 (by omega) (by omega) (by omega)])
  have hu0 : uns σ2 N ≤ N := uns_le
  have R : Rel σ2 τ3 v N U mi ar la (fun u => (st v u).isNone) (fun u a => match st v u with | none => 0 | some s => wyN (sx s) (sy s) (ax a) (ay a) p) 0 (fun _ => 0) := by
    refine ⟨⟨⟨h60, g3, hv, ?_, ?_, b1, CM3.1.2.2.1⟩, fun i hi => ?_, fun u hu => ?_⟩, ⟨fun i hi => ?_, fun u hu => ?_, fun u hu => ?_, fun _ _ _ => rfl, fun _ _ _ => rfl⟩, fun m _ hm => ?_, ?_, Nat.zero_le _⟩
    · rw [b6 34 (by omega)]; exact a1
    · rw [k3 39 (by omega) (by omega) (by omega)]; exact c1
    · obtain ⟨q1, q2, q3, q4⟩ := a2 i hi
      obtain ⟨r1, r2, r3, r4, r5⟩ := c2 i hi
      rw [b6 35 (by omega), b6 36 (by omega), b6 37 (by omega), b6 38 (by omega), k3 46 (by omega) (by omega) (by omega), k3 47 (by omega) (by omega) (by omega), k3 48 (by omega) (by omega) (by omega), k3 49 (by omega) (by omega) (by omega), q1, q2, q3, q4, r1, r2, r3, r4]
      obtain ⟨k0, hk0, e0⟩ := ush4 (du sd dy i)
      have := (har i hi k0 hk0 e0).1
      exact ⟨⟨(hmi i).2, (hmi i).2, rfl, rfl, rfl, (hla i).2.2, (hla i).2.2⟩, (hmi i).1, by omega, (hla i).1, (hla i).2.1⟩
    · obtain ⟨q1, q2⟩ := b4 u hu
      have hM := CM3.2.2.2 v u hv hu
      cases hs : st v u with
      | none =>
        left
        rw [hs] at q1 hM
        exact ⟨by simp [hs], q1, hM⟩
      | some s =>
        right
        rw [hs] at q1 hM
        have hsS := (hun v u hv hu).2 s hs
        refine ⟨by simp [hs], q1, s, by omega, hM, fun i hi => ?_⟩
        obtain ⟨k0, hk0, e0⟩ := ush4 (du sd dy i)
        have hai := (har i hi k0 hk0 e0).1
        obtain ⟨s1, s2, s3, s4⟩ := hst s hsS
        obtain ⟨r1, r2, r3, r4, r5, -⟩ := har0 (ar i) hai
        have hw := way_n s3 s4 r4 r5 g5
        simp only [hs]
        refine ⟨hw.2, q2 s hs (ar i) hai, ?_⟩
        unfold wayM
        rw [(CM3.2.1 s hsS).1, (CM3.2.1 s hsS).2, (CM3.2.2.1 (ar i) hai).1, (CM3.2.2.1 (ar i) hai).2.1, CM3.1.2.2.2.1]
        exact hw.1
    · rw [b5 i (by omega), k3 50 (by omega) (by omega) (by omega), (c2 i hi).2.2.2.2]
      exact ⟨rfl, Or.inl rfl⟩
    · rw [(b3 u hu).2, i2 54 (by omega), (d1 u hu).2]
    · rw [(b3 u hu).1, i2 53 (by omega), (d1 u hu).1]
      exact ⟨rfl, rfl, Nat.zero_le _⟩
    · rw [i1 m hm, cnt_all 12 (fun u _ => by simp)]
      rfl
    · show σ2 13 10 = _
      rw [b2]
      rfl
  obtain ⟨σ', τ', bk', k0, r1, r2, r3, r4, ⟨d3, d4, d5, -⟩, r6, r7, r8⟩ := lock 120 σ2 τ3 0 (fun _ => 0) 0 R (by have h1 := cnt_le (fun i => decide (0 < mi i)) N; rw [cnt_all 12 (fun u _ => by simp)]; omega) (by omega)
  obtain ⟨τ4, f4, j1, j2, j3⟩ := miss_M (many U (fun u => (st v u).isNone)) τ'
  have e3 : f_X2_playOut σ2 = some (0, σ') := r1 (fun z => some ((0 : Int32), z)) FU (by unfold FU; omega)
  have h04 : σ' 0 = σ 0 := by rw [r7.1 0 (by decide) (by decide) (by decide) (by decide) (by decide) (by decide), b6 0 (by omega), a3 0 (by omega)]
  have h344 : σ' 34 4 = nI N := by rw [r7.1 34 (by decide) (by decide) (by decide) (by decide) (by decide) (by decide), b6 34 (by omega)]; exact a1
  have hbn := bnd_le (σ := σ') h60
  refine ⟨σ', τ4, ?_, ?_, ⟨⟨h60, h344, ?_⟩, fun i hi => ?_, fun u hu => ?_, ?_⟩, fun k hk => ?_, fun j q1 q2 => ?_, fun k q1 q2 => ?_⟩
  · unfold f_X4_lateOn
    rw [e1, bd_d, a3 0 (by omega), x4, e2, bd_d, e3, bd_d, h04, x5, countLate_X (nI mk) h344 h60, bd_d]
  · unfold f_X5_play
    rw [f1, bd_d]
    show f_X5_play_L14 (nI v) _ FU (0 : Int32) (0 : Int32) τ1 = _
    rw [f2]
    show f_X5_play_L80 (nI v) _ _ FU (0 : Int32) τ2 = _
    rw [hKL] at f3
    rw [f3]
    have hfu : FU = (FU - k0) + k0 := by unfold FU; omega
    have h9 := r2 (nI (many U (fun u => (st v u).isNone))) KL (FU - k0)
    rw [← hfu, hKL] at h9
    exact Eq.trans h9 f4
  · rw [j2 12 (by decide), r8 39 (by omega), k3 39 (by omega) (by omega) (by omega)]; exact c1
  · obtain ⟨q1, q2⟩ := d3 i hi
    obtain ⟨⟨u1, u2, u3, u4, u5, -⟩, u8, -⟩ := r4.2.1 i hi
    refine ⟨⟨?_, ?_, ?_, ?_⟩, mi i, u8, u1, ?_⟩
    · rw [j3 46 (by decide), u1, u2]
    · rw [j3 47 (by decide), u3, u4]
    · rw [j3 48 (by decide)]; exact u5
    · rw [j3 50 (by decide)]; exact q1
    · rcases q2 with q2 | ⟨⟨u, hu, q3⟩, q4, q5, t, q6, q7, q8⟩
      · exact Or.inl q2
      · refine Or.inr ⟨⟨u, by omega, q3⟩, ?_, ?_, t, q6, q7, by omega⟩
        · rw [j3 52 (by decide)]; exact q4
        · rw [j3 51 (by decide)]; exact q5
  · rw [j3 54 (by decide)]; exact d4 u hu
  · rw [j1]; exact r6
  · rw [r7.1 k (by omega) (by omega) (by omega) (by omega) (by omega) (by omega), b6 k (by omega), a3 k (by omega)]
  · rw [j2 j q2, r8 39 (by omega), k3 39 (by omega) (by omega) (by omega)]; exact c3 j q1
  · rw [j3 k q1, r8 k (by omega), k3 k (by omega) (by omega) (by omega)]; exact c4 k q1 (by omega)
end RN
