abbrev K0 : St → Option (Int32 × St) := fun s => some ((0 : Int32), s)
section PH
variable {v N U : Nat} {mi ar la : Nat → Nat} {lo : Nat → Bool} {wy : Nat → Nat → Nat} {now : Nat}
theorem notFar {w : Nat} (h : w < 100000) : ¬ (100000000 : Int32) ≤ nI w := ltFar (by omega)
/-- the reference's turn where a call can be served -/
theorem turnSend {τ τ' : St} {i u : Nat} {b5 : Int32} {K : St → Option (Int32 × St)} {n a w : Nat} (hn : now < 100000) (hv : v < 4) (hu : u < 12) (hi : i < 60) (e1 : f_X5_next (nI now) τ = some (nI i, τ)) (ha : τ 47 i = nI a) (e2 : f_X5_nearest (nI v) (nI a) (nI now) τ = some (nI u, τ)) (e3 : f_X5_wayOf (τ 45 (12 * v + u)) (nI a) τ = some (nI w, τ)) (e4 : f_X5_send (nI i) (nI u) (nI w) (nI now) τ = some (0, τ')) :
    f_X5_play_L105 (nI v) b5 K (n + 1) (nI now) τ = f_X5_play_L105 (nI v) b5 K n (nI now) τ' := by
  have h1 : (nI i).toNatClampNeg = i := nI_clamp (by omega)
  have h2 : (nI (12 * v + u)).toNatClampNeg = 12 * v + u := nI_clamp (by omega)
  rw [f_X5_play_L105, if_neg (notFar hn), e1]
  simp only [bd_d, lt_d, ixb_nI hi (by decide), ck_d, rd, h1, ha, e2, i12, ixb_nI (show 12 * v + u < 48 by omega) (by decide), h2, e3, e4]
  rw [if_pos (nI_pos' (by omega)), if_neg (nI_nneg (by omega))]
/-- where none can -/
theorem turnNone {τ : St} {b5 : Int32} {K : St → Option (Int32 × St)} {n : Nat} (hn : now < 100000) (e1 : f_X5_next (nI now) τ = some (-1, τ)) :
    f_X5_play_L105 (nI v) b5 K (n + 1) (nI now) τ = bd (f_X5_later (nI now) τ) (fun r s => f_X5_play_L105 (nI v) b5 K n r s) := by
  rw [f_X5_play_L105, if_neg (notFar hn), e1]
  simp only [bd_d, lt_d]
  rw [if_neg (by decide), if_pos (by decide)]
theorem turnStuck {τ : St} {i : Nat} {b5 : Int32} {K : St → Option (Int32 × St)} {n a : Nat} (hn : now < 100000) (hi : i < 60) (e1 : f_X5_next (nI now) τ = some (nI i, τ)) (ha : τ 47 i = nI a) (e2 : f_X5_nearest (nI v) (nI a) (nI now) τ = some (-1, τ)) :
    f_X5_play_L105 (nI v) b5 K (n + 1) (nI now) τ = bd (f_X5_later (nI now) τ) (fun r s => f_X5_play_L105 (nI v) b5 K n r s) := by
  have h1 : (nI i).toNatClampNeg = i := nI_clamp (by omega)
  rw [f_X5_play_L105, if_neg (notFar hn), e1]
  simp only [bd_d, lt_d, ixb_nI hi (by decide), ck_d, rd, h1, ha, e2]
  rw [if_pos (nI_pos' (by omega)), if_pos (by decide)]
theorem Rel.phase : ∀ (d : Nat) (σ τ : St) (bk : Nat → Nat) (sent : Nat), Rel σ τ v N U mi ar la lo wy now bk → uns σ N = d → sent + d ≤ 60 →
    ∃ (σ' τ' : St) (bk' : Nat → Nat) (k : Nat), (∀ n, d < n → f_X2_sendUnits_L2 (nI now) K0 K0 K0 n (nI sent) σ = some (0, σ')) ∧ (∀ b5 K n, f_X5_play_L105 (nI v) b5 K (n + k) (nI now) τ = f_X5_play_L105 (nI v) b5 K n (nI now) τ') ∧ Rel σ' τ' v N U mi ar la lo wy now bk' ∧ uns σ' N + k = d ∧ cnt (fun x => decide (now < bk' x)) 12 = cnt (fun x => decide (now < bk x)) 12 + k ∧
      (∀ b5 K n, f_X5_play_L105 (nI v) b5 K (n + 1) (nI now) τ' = bd (f_X5_later (nI now) τ') (fun r s => f_X5_play_L105 (nI v) b5 K n r s)) ∧ FrX σ σ' ∧ FrM τ τ' := by
  intro d
  induction d with
  | zero =>
    intro σ τ bk sent R hd hs
    obtain ⟨q, e1, e2, hq⟩ := R.who
    have R0 := R
    obtain ⟨⟨⟨h60, h12, hv, -⟩, -⟩, -, -, -, hn⟩ := R0
    have hb := bnd_le (σ := σ) h60
    cases q with
    | some i =>
      obtain ⟨hi, hs1, -⟩ := hq i rfl
      exact absurd hd (cnt_pos (by simp [hs1]) N hi)
    | none =>
      refine ⟨σ, τ, bk, 0, fun n hn => ?_, fun _ _ _ => rfl, R, by omega, rfl, fun b5 K n => turnNone (by omega) e2, FrX.rf σ, FrM.rf τ⟩
      obtain ⟨n, rfl⟩ : ∃ m, n = m + 1 := ⟨n - 1, by omega⟩
      rw [f_X2_sendUnits_L2]
      by_cases hs2 : 60 ≤ sent
      · rw [if_pos (show (60 : Int32) ≤ nI sent from nI_le (a := 60) hs2 (by omega))]
      · rw [if_neg (show ¬ (60 : Int32) ≤ nI sent from nI_ge (b := 60) (by omega) (by omega)), e1]
        rfl
  | succ d ih =>
    intro σ τ bk sent R hd hs
    obtain ⟨q, e1, e2, hq⟩ := R.who
    have R0 := R
    obtain ⟨⟨⟨h60, h12, hv, -⟩, hcalls, -⟩, -, -, -, hn⟩ := R0
    have hb := bnd_le (σ := σ) h60
    have hs60 : ¬ (60 : Int32) ≤ nI sent := nI_ge (b := 60) (by omega) (by omega)
    cases q with
    | none =>
      refine ⟨σ, τ, bk, 0, fun n hn => ?_, fun _ _ _ => rfl, R, by omega, rfl, fun b5 K n => turnNone (by omega) e2, FrX.rf σ, FrM.rf τ⟩
      obtain ⟨n, rfl⟩ : ∃ m, n = m + 1 := ⟨n - 1, by omega⟩
      rw [f_X2_sendUnits_L2, if_neg hs60, e1]
      rfl
    | some i =>
      obtain ⟨hi, hs1, hm⟩ := hq i rfl
      obtain ⟨⟨-, -, a3, a4, -⟩, -⟩ := hcalls i hi
      have h1 : (nI i).toNatClampNeg = i := nI_clamp (by omega)
      obtain ⟨q2, g1, g2, gq, gn⟩ := R.near hi
      cases q2 with
      | none =>
        refine ⟨σ, τ, bk, 0, fun n hn => ?_, fun _ _ _ => rfl, R, by omega, rfl, fun b5 K n => turnStuck (by omega) (by omega) e2 a4 g2, FrX.rf σ, FrM.rf τ⟩
        obtain ⟨n, rfl⟩ : ∃ m, n = m + 1 := ⟨n - 1, by omega⟩
        rw [f_X2_sendUnits_L2, if_neg hs60, e1]
        simp only [bd_d, enc]
        rw [if_neg (enc_some_ne (by omega)), ixb_nI (by omega) (by decide), ck_d]
        simp only [rd, h1, a3, g1, bd_d, enc]
        rfl
      | some u =>
        obtain ⟨hu, hlo, hbk⟩ := gq u rfl
        obtain ⟨σ1, τ1, bk1, s1, s2, s3, R1, hu1, hc1, fx1, fm1⟩ := R.send hi hs1 hm hu hlo hbk
        obtain ⟨σ2, τ2, bk2, k, p1, p2, R2, hu2, hc2, p3, fx2, fm2⟩ := ih σ1 τ1 bk1 (sent + 1) R1 (by omega) (by omega)
        refine ⟨σ2, τ2, bk2, k + 1, fun n hn => ?_, fun b5 K n => ?_, R2, by omega, by omega, p3, fx1.tr fx2, fm1.tr fm2⟩
        · obtain ⟨n, rfl⟩ : ∃ m, n = m + 1 := ⟨n - 1, by omega⟩
          rw [f_X2_sendUnits_L2, if_neg hs60, e1]
          simp only [bd_d, enc]
          rw [if_neg (enc_some_ne (by omega)), ixb_nI (by omega) (by decide), ck_d]
          simp only [rd, h1, a3, g1, bd_d, enc]
          rw [if_neg (enc_some_ne (by omega)), s1]
          simp only [bd_d, lt_d, nI_s]
          exact p1 n (by omega)
        · rw [← Nat.add_assoc, turnSend (by omega) hv (by omega) (by omega) e2 a4 g2 s2 s3]
          exact p2 b5 K n
end PH
