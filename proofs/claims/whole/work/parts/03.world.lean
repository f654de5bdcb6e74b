/-! the state of both sides: what each cell holds, by its number in the table of wip/gen/world.py -/
abbrev St : Type := Nat → Nat → Int32
abbrev En : Type := (Nat → Nat) × (Nat → ClassId) × va_G
def ad (E : En) (k : Nat) : Nat := E.1 k
def gk (E : En) (o : Int64) (k : Nat) (r : Nat → Int32) : va_E := match k with
  | 0 => .inr (4, [.ref (ad E 1), .ref (ad E 7), .ref (ad E 13), .int (r 3), .int (r 4)]) -- x
  | 1 => .inr (3, [.ref (ad E 2), .ref (ad E 3), .ref (ad E 4), .ref (ad E 5), .ref (ad E 6), .int (r 5), .int (r 6), .int (r 7)]) -- x.town
  | 2 => .inl (E.2.1 0, 6, .inl r) -- x.town.stationX
  | 3 => .inl (E.2.1 0, 6, .inl r) -- x.town.stationY
  | 4 => .inl (E.2.1 0, 10, .inl r) -- x.town.areaX
  | 5 => .inl (E.2.1 0, 10, .inl r) -- x.town.areaY
  | 6 => .inl (E.2.1 0, 10, .inl r) -- x.town.weight
  | 7 => .inr (1, [.ref (ad E 8), .int (r 1)]) -- x.fleet
  | 8 => .inl (E.2.1 2, 4, .inr (.inr (.inr (.inr (fun j => if j < 4 then some (ad E (9 + j)) else none))))) -- x.fleet.stationOf
  | 9 => .inl (E.2.1 0, 12, .inl r) -- x.fleet.stationOf.0
  | 10 => .inl (E.2.1 0, 12, .inl r) -- x.fleet.stationOf.1
  | 11 => .inl (E.2.1 0, 12, .inl r) -- x.fleet.stationOf.2
  | 12 => .inl (E.2.1 0, 12, .inl r) -- x.fleet.stationOf.3
  | 13 => .inr (2, [.ref (ad E 34), .ref (ad E 14), .ref (ad E 15), .ref (ad E 16), .ref (ad E 17), .ref (ad E 18), .ref (ad E 19), .ref (ad E 32), .ref (ad E 33), .int (r 9), .int (r 10)]) -- x.play
  | 14 => .inl (E.2.1 0, 60, .inl r) -- x.play.unitOf
  | 15 => .inl (E.2.1 0, 60, .inl r) -- x.play.wayOf
  | 16 => .inl (E.2.1 0, 60, .inl r) -- x.play.arrival
  | 17 => .inl (E.2.1 0, 12, .inl r) -- x.play.workOf
  | 18 => .inl (E.2.1 1, 12, .inl r) -- x.play.leftOut
  | 19 => .inl (E.2.1 2, 12, .inr (.inr (.inr (.inr (fun j => if j < 12 then some (ad E (20 + j)) else none))))) -- x.play.wayTo
  | 20 => .inl (E.2.1 0, 10, .inl r) -- x.play.wayTo.0
  | 21 => .inl (E.2.1 0, 10, .inl r) -- x.play.wayTo.1
  | 22 => .inl (E.2.1 0, 10, .inl r) -- x.play.wayTo.2
  | 23 => .inl (E.2.1 0, 10, .inl r) -- x.play.wayTo.3
  | 24 => .inl (E.2.1 0, 10, .inl r) -- x.play.wayTo.4
  | 25 => .inl (E.2.1 0, 10, .inl r) -- x.play.wayTo.5
  | 26 => .inl (E.2.1 0, 10, .inl r) -- x.play.wayTo.6
  | 27 => .inl (E.2.1 0, 10, .inl r) -- x.play.wayTo.7
  | 28 => .inl (E.2.1 0, 10, .inl r) -- x.play.wayTo.8
  | 29 => .inl (E.2.1 0, 10, .inl r) -- x.play.wayTo.9
  | 30 => .inl (E.2.1 0, 10, .inl r) -- x.play.wayTo.10
  | 31 => .inl (E.2.1 0, 10, .inl r) -- x.play.wayTo.11
  | 32 => .inl (E.2.1 0, 12, .inl r) -- x.play.backAt
  | 33 => .inl (E.2.1 0, 24, .inl r) -- x.play.lateInHour
  | 34 => .inr (0, [.ref (ad E 35), .ref (ad E 36), .ref (ad E 37), .ref (ad E 38), .int (r 4)]) -- x.play.day
  | 35 => .inl (E.2.1 0, 60, .inl r) -- x.play.day.minute
  | 36 => .inl (E.2.1 0, 60, .inl r) -- x.play.day.area
  | 37 => .inl (E.2.1 0, 60, .inl r) -- x.play.day.rank
  | 38 => .inl (E.2.1 0, 60, .inl r) -- x.play.day.lasts
  | 39 => .inr (5, [.int (r 0), .int (r 1), .int (r 2), .int (r 3), .ref (ad E 40), .ref (ad E 41), .int (r 6), .ref (ad E 42), .ref (ad E 43), .ref (ad E 44), .int (r 10), .ref (ad E 45), .int (r 12), .ref (ad E 46), .ref (ad E 47), .ref (ad E 48), .ref (ad E 49), .ref (ad E 50), .ref (ad E 51), .ref (ad E 52), .ref (ad E 53), .ref (ad E 54), .ref (ad E 55), .int (r 23)]) -- m
  | 40 => .inl (E.2.1 0, 6, .inl r) -- m.stationX
  | 41 => .inl (E.2.1 0, 6, .inl r) -- m.stationY
  | 42 => .inl (E.2.1 0, 10, .inl r) -- m.areaX
  | 43 => .inl (E.2.1 0, 10, .inl r) -- m.areaY
  | 44 => .inl (E.2.1 0, 10, .inl r) -- m.weight
  | 45 => .inl (E.2.1 0, 48, .inl r) -- m.stands
  | 46 => .inl (E.2.1 0, 60, .inl r) -- m.minute
  | 47 => .inl (E.2.1 0, 60, .inl r) -- m.place
  | 48 => .inl (E.2.1 0, 60, .inl r) -- m.rank
  | 49 => .inl (E.2.1 0, 60, .inl r) -- m.lasts
  | 50 => .inl (E.2.1 0, 60, .inl r) -- m.unit
  | 51 => .inl (E.2.1 0, 60, .inl r) -- m.came
  | 52 => .inl (E.2.1 0, 60, .inl r) -- m.way
  | 53 => .inl (E.2.1 0, 12, .inl r) -- m.back
  | 54 => .inl (E.2.1 0, 12, .inl r) -- m.work
  | 55 => .inl (E.2.1 0, 1440, .inl r) -- m.busy
  | _ => .inl (E.2.1 3, 1, .inr (.inl (fun _ => o))) -- out
def NW : Nat := 57
theorem gk_0 (E : En) (o : Int64) (r : Nat → Int32) : gk E o 0 r = .inr (4, [.ref (ad E 1), .ref (ad E 7), .ref (ad E 13), .int (r 3), .int (r 4)]) := rfl
theorem gk_1 (E : En) (o : Int64) (r : Nat → Int32) : gk E o 1 r = .inr (3, [.ref (ad E 2), .ref (ad E 3), .ref (ad E 4), .ref (ad E 5), .ref (ad E 6), .int (r 5), .int (r 6), .int (r 7)]) := rfl
theorem gk_2 (E : En) (o : Int64) (r : Nat → Int32) : gk E o 2 r = .inl (E.2.1 0, 6, .inl r) := rfl
theorem gk_3 (E : En) (o : Int64) (r : Nat → Int32) : gk E o 3 r = .inl (E.2.1 0, 6, .inl r) := rfl
theorem gk_4 (E : En) (o : Int64) (r : Nat → Int32) : gk E o 4 r = .inl (E.2.1 0, 10, .inl r) := rfl
theorem gk_5 (E : En) (o : Int64) (r : Nat → Int32) : gk E o 5 r = .inl (E.2.1 0, 10, .inl r) := rfl
theorem gk_6 (E : En) (o : Int64) (r : Nat → Int32) : gk E o 6 r = .inl (E.2.1 0, 10, .inl r) := rfl
theorem gk_7 (E : En) (o : Int64) (r : Nat → Int32) : gk E o 7 r = .inr (1, [.ref (ad E 8), .int (r 1)]) := rfl
theorem gk_8 (E : En) (o : Int64) (r : Nat → Int32) : gk E o 8 r = .inl (E.2.1 2, 4, .inr (.inr (.inr (.inr (fun j => if j < 4 then some (ad E (9 + j)) else none))))) := rfl
theorem gk_9 (E : En) (o : Int64) (r : Nat → Int32) : gk E o 9 r = .inl (E.2.1 0, 12, .inl r) := rfl
theorem gk_10 (E : En) (o : Int64) (r : Nat → Int32) : gk E o 10 r = .inl (E.2.1 0, 12, .inl r) := rfl
theorem gk_11 (E : En) (o : Int64) (r : Nat → Int32) : gk E o 11 r = .inl (E.2.1 0, 12, .inl r) := rfl
theorem gk_12 (E : En) (o : Int64) (r : Nat → Int32) : gk E o 12 r = .inl (E.2.1 0, 12, .inl r) := rfl
theorem gk_13 (E : En) (o : Int64) (r : Nat → Int32) : gk E o 13 r = .inr (2, [.ref (ad E 34), .ref (ad E 14), .ref (ad E 15), .ref (ad E 16), .ref (ad E 17), .ref (ad E 18), .ref (ad E 19), .ref (ad E 32), .ref (ad E 33), .int (r 9), .int (r 10)]) := rfl
theorem gk_14 (E : En) (o : Int64) (r : Nat → Int32) : gk E o 14 r = .inl (E.2.1 0, 60, .inl r) := rfl
theorem gk_15 (E : En) (o : Int64) (r : Nat → Int32) : gk E o 15 r = .inl (E.2.1 0, 60, .inl r) := rfl
theorem gk_16 (E : En) (o : Int64) (r : Nat → Int32) : gk E o 16 r = .inl (E.2.1 0, 60, .inl r) := rfl
theorem gk_17 (E : En) (o : Int64) (r : Nat → Int32) : gk E o 17 r = .inl (E.2.1 0, 12, .inl r) := rfl
theorem gk_18 (E : En) (o : Int64) (r : Nat → Int32) : gk E o 18 r = .inl (E.2.1 1, 12, .inl r) := rfl
theorem gk_19 (E : En) (o : Int64) (r : Nat → Int32) : gk E o 19 r = .inl (E.2.1 2, 12, .inr (.inr (.inr (.inr (fun j => if j < 12 then some (ad E (20 + j)) else none))))) := rfl
theorem gk_20 (E : En) (o : Int64) (r : Nat → Int32) : gk E o 20 r = .inl (E.2.1 0, 10, .inl r) := rfl
theorem gk_21 (E : En) (o : Int64) (r : Nat → Int32) : gk E o 21 r = .inl (E.2.1 0, 10, .inl r) := rfl
theorem gk_22 (E : En) (o : Int64) (r : Nat → Int32) : gk E o 22 r = .inl (E.2.1 0, 10, .inl r) := rfl
theorem gk_23 (E : En) (o : Int64) (r : Nat → Int32) : gk E o 23 r = .inl (E.2.1 0, 10, .inl r) := rfl
theorem gk_24 (E : En) (o : Int64) (r : Nat → Int32) : gk E o 24 r = .inl (E.2.1 0, 10, .inl r) := rfl
theorem gk_25 (E : En) (o : Int64) (r : Nat → Int32) : gk E o 25 r = .inl (E.2.1 0, 10, .inl r) := rfl
theorem gk_26 (E : En) (o : Int64) (r : Nat → Int32) : gk E o 26 r = .inl (E.2.1 0, 10, .inl r) := rfl
theorem gk_27 (E : En) (o : Int64) (r : Nat → Int32) : gk E o 27 r = .inl (E.2.1 0, 10, .inl r) := rfl
theorem gk_28 (E : En) (o : Int64) (r : Nat → Int32) : gk E o 28 r = .inl (E.2.1 0, 10, .inl r) := rfl
theorem gk_29 (E : En) (o : Int64) (r : Nat → Int32) : gk E o 29 r = .inl (E.2.1 0, 10, .inl r) := rfl
theorem gk_30 (E : En) (o : Int64) (r : Nat → Int32) : gk E o 30 r = .inl (E.2.1 0, 10, .inl r) := rfl
theorem gk_31 (E : En) (o : Int64) (r : Nat → Int32) : gk E o 31 r = .inl (E.2.1 0, 10, .inl r) := rfl
theorem gk_32 (E : En) (o : Int64) (r : Nat → Int32) : gk E o 32 r = .inl (E.2.1 0, 12, .inl r) := rfl
theorem gk_33 (E : En) (o : Int64) (r : Nat → Int32) : gk E o 33 r = .inl (E.2.1 0, 24, .inl r) := rfl
theorem gk_34 (E : En) (o : Int64) (r : Nat → Int32) : gk E o 34 r = .inr (0, [.ref (ad E 35), .ref (ad E 36), .ref (ad E 37), .ref (ad E 38), .int (r 4)]) := rfl
theorem gk_35 (E : En) (o : Int64) (r : Nat → Int32) : gk E o 35 r = .inl (E.2.1 0, 60, .inl r) := rfl
theorem gk_36 (E : En) (o : Int64) (r : Nat → Int32) : gk E o 36 r = .inl (E.2.1 0, 60, .inl r) := rfl
theorem gk_37 (E : En) (o : Int64) (r : Nat → Int32) : gk E o 37 r = .inl (E.2.1 0, 60, .inl r) := rfl
theorem gk_38 (E : En) (o : Int64) (r : Nat → Int32) : gk E o 38 r = .inl (E.2.1 0, 60, .inl r) := rfl
theorem gk_39 (E : En) (o : Int64) (r : Nat → Int32) : gk E o 39 r = .inr (5, [.int (r 0), .int (r 1), .int (r 2), .int (r 3), .ref (ad E 40), .ref (ad E 41), .int (r 6), .ref (ad E 42), .ref (ad E 43), .ref (ad E 44), .int (r 10), .ref (ad E 45), .int (r 12), .ref (ad E 46), .ref (ad E 47), .ref (ad E 48), .ref (ad E 49), .ref (ad E 50), .ref (ad E 51), .ref (ad E 52), .ref (ad E 53), .ref (ad E 54), .ref (ad E 55), .int (r 23)]) := rfl
theorem gk_40 (E : En) (o : Int64) (r : Nat → Int32) : gk E o 40 r = .inl (E.2.1 0, 6, .inl r) := rfl
theorem gk_41 (E : En) (o : Int64) (r : Nat → Int32) : gk E o 41 r = .inl (E.2.1 0, 6, .inl r) := rfl
theorem gk_42 (E : En) (o : Int64) (r : Nat → Int32) : gk E o 42 r = .inl (E.2.1 0, 10, .inl r) := rfl
theorem gk_43 (E : En) (o : Int64) (r : Nat → Int32) : gk E o 43 r = .inl (E.2.1 0, 10, .inl r) := rfl
theorem gk_44 (E : En) (o : Int64) (r : Nat → Int32) : gk E o 44 r = .inl (E.2.1 0, 10, .inl r) := rfl
theorem gk_45 (E : En) (o : Int64) (r : Nat → Int32) : gk E o 45 r = .inl (E.2.1 0, 48, .inl r) := rfl
theorem gk_46 (E : En) (o : Int64) (r : Nat → Int32) : gk E o 46 r = .inl (E.2.1 0, 60, .inl r) := rfl
theorem gk_47 (E : En) (o : Int64) (r : Nat → Int32) : gk E o 47 r = .inl (E.2.1 0, 60, .inl r) := rfl
theorem gk_48 (E : En) (o : Int64) (r : Nat → Int32) : gk E o 48 r = .inl (E.2.1 0, 60, .inl r) := rfl
theorem gk_49 (E : En) (o : Int64) (r : Nat → Int32) : gk E o 49 r = .inl (E.2.1 0, 60, .inl r) := rfl
theorem gk_50 (E : En) (o : Int64) (r : Nat → Int32) : gk E o 50 r = .inl (E.2.1 0, 60, .inl r) := rfl
theorem gk_51 (E : En) (o : Int64) (r : Nat → Int32) : gk E o 51 r = .inl (E.2.1 0, 60, .inl r) := rfl
theorem gk_52 (E : En) (o : Int64) (r : Nat → Int32) : gk E o 52 r = .inl (E.2.1 0, 60, .inl r) := rfl
theorem gk_53 (E : En) (o : Int64) (r : Nat → Int32) : gk E o 53 r = .inl (E.2.1 0, 12, .inl r) := rfl
theorem gk_54 (E : En) (o : Int64) (r : Nat → Int32) : gk E o 54 r = .inl (E.2.1 0, 12, .inl r) := rfl
theorem gk_55 (E : En) (o : Int64) (r : Nat → Int32) : gk E o 55 r = .inl (E.2.1 0, 1440, .inl r) := rfl
theorem gk_56 (E : En) (o : Int64) (r : Nat → Int32) : gk E o 56 r = .inl (E.2.1 3, 1, .inr (.inl (fun _ => o))) := rfl
theorem gkd_9 (E : En) (o : Int64) {j : Nat} (h : j < 4) (r : Nat → Int32) : gk E o (9 + j) r = .inl (E.2.1 0, 12, .inl r) := by
  match j, h with
  | 0, _ => rfl
  | 1, _ => rfl
  | 2, _ => rfl
  | 3, _ => rfl
theorem gkn_9 {j : Nat} (h : j < 4) : 9 + j < NW := by
  show _ < 57; omega
theorem gkd_20 (E : En) (o : Int64) {j : Nat} (h : j < 12) (r : Nat → Int32) : gk E o (20 + j) r = .inl (E.2.1 0, 10, .inl r) := by
  match j, h with
  | 0, _ => rfl
  | 1, _ => rfl
  | 2, _ => rfl
  | 3, _ => rfl
  | 4, _ => rfl
  | 5, _ => rfl
  | 6, _ => rfl
  | 7, _ => rfl
  | 8, _ => rfl
  | 9, _ => rfl
  | 10, _ => rfl
  | 11, _ => rfl
theorem gkn_20 {j : Nat} (h : j < 12) : 20 + j < NW := by
  show _ < 57; omega
def gw (E : En) (o : Int64) (σ : St) : va_W := (List.range NW).map (fun k => (ad E k, gk E o k (σ k)))
theorem gw_len (E : En) (o : Int64) (σ : St) : (gw E o σ).length = NW := by simp [gw]
theorem gw_at (E : En) (o : Int64) (σ : St) {k : Nat} (h : k < NW) : (gw E o σ)[k]? = some (ad E k, gk E o k (σ k)) := by
  unfold gw
  rw [List.getElem?_map, List.getElem?_range h]
  rfl
theorem gw_none (E : En) (o : Int64) (σ : St) {k : Nat} (h : ¬ k < NW) : (gw E o σ)[k]? = none := List.getElem?_eq_none (by rw [gw_len]; omega)
theorem gw_set (E : En) (o : Int64) (σ : St) {k : Nat} (h : k < NW) (r : Nat → Int32) : (gw E o σ).set k (ad E k, gk E o k r) = gw E o (va_up σ k r) := by
  apply List.ext_getElem?
  intro j
  rw [List.getElem?_set]
  by_cases e : k = j
  · subst e
    rw [if_pos rfl, gw_len, if_pos h, gw_at E o (va_up σ k r) h, va_up_self]
  · rw [if_neg e]
    by_cases hj : j < NW
    · rw [gw_at E o σ hj, gw_at E o (va_up σ k r) hj, va_up_ne _ _ (Ne.symm e)]
    · rw [gw_none E o σ hj, gw_none E o (va_up σ k r) hj]
theorem gw_ad (E : En) (o : Int64) (σ : St) {k : Nat} {q : Nat × va_E} (h : (gw E o σ)[k]? = some q) : k < NW ∧ q.1 = ad E k := by
  by_cases hk : k < NW
  · rw [gw_at E o σ hk] at h
    cases h
    exact ⟨hk, rfl⟩
  · rw [gw_none E o σ hk] at h
    cases h
theorem gw_D {E : En} {o o' : Int64} {σ σ' : St} {A B : Nat → Prop} (h : va_D A (gw E o σ)) (hB : ∀ k, k < NW → B (ad E k)) : va_D B (gw E o' σ') := by
  refine ⟨fun i j p q hi hj e => ?_, fun k q hk => ?_⟩
  · obtain ⟨hi1, hi2⟩ := gw_ad _ _ _ hi
    obtain ⟨hj1, hj2⟩ := gw_ad _ _ _ hj
    exact h.1 i j _ _ (gw_at E o σ hi1) (gw_at E o σ hj1) (by show ad E i = ad E j; rw [← hi2, ← hj2, e])
  · obtain ⟨h1, h2⟩ := gw_ad _ _ _ hk
    rw [h2]; exact hB k h1
theorem gw_A {E : En} {o : Int64} {σ : St} {A : Nat → Prop} (h : va_D A (gw E o σ)) : ∀ k, k < NW → A (ad E k) := fun _ hk => h.2 _ _ (gw_at E o σ hk)
def gT (E : En) : List (ClassId × FieldType) := [(E.2.1 0, .int), (E.2.1 1, .boolean), (E.2.1 2, .array .int), (E.2.1 3, .long)]
/-- reading and writing a place of an array, a field of an object -/
abbrev rd (σ : St) (k : Nat) (i : Int32) : Int32 := σ k i.toNatClampNeg
abbrev wr (σ : St) (k : Nat) (i x : Int32) : St := va_up σ k (upd (σ k) i.toNatClampNeg x)
abbrev wf (σ : St) (k j : Nat) (x : Int32) : St := va_up σ k (upd (σ k) j x)
abbrev irm (x y : Int32) : Int32 := x - x / y * y
abbrev lrm (x y : Int64) : Int64 := x - x / y * y
abbrev ush (x y : Int32) : Int32 := (x.toUInt32 >>> (y.toUInt32 &&& Int32.toUInt32 31)).toInt32
/-- what a walk's function is made of -/
def ck {α : Type} (b : Bool) (k : Option α) : Option α := match b with
  | true => k
  | false => none
def lt {α β : Type} (x : α) (k : α → β) : β := k x
def bd {α β : Type} (x : Option (α × St)) (k : α → St → Option β) : Option β := match x with
  | none => none
  | some (a, σ) => k a σ
abbrev Ex : Type := Int32 ⊕ String
def bx (x : Option (Ex × St)) (k : Int32 → St → Option (Ex × St)) : Option (Ex × St) := match x with
  | none => none
  | some (.inl a, σ) => k a σ
  | some (.inr e, σ) => some (.inr e, σ)
def ixb (i : Int32) (n : Nat) : Bool := decide (0 ≤ i.toInt ∧ i.toInt < n)
def nzb (i : Int32) : Bool := decide (¬ i = 0)
def nzl (i : Int64) : Bool := decide (¬ i = 0)
def zob (i : Int32) : Bool := decide (vp_nar .boolean i = i)
def FU : Nat := 1000000
theorem ck_some {α : Type} {b : Bool} {k : Option α} {r : α} (h : ck b k = some r) : b = true ∧ k = some r := by
  cases b with
  | true => exact ⟨rfl, h⟩
  | false => cases h
theorem ck_t {α : Type} {b : Bool} {k : Option α} (h : b = true) : ck b k = k := by rw [h]; rfl
theorem lt_at {α β : Type} {e x : α} {k : α → β} {z : β} (h : lt e k = z) (hx : x = e) : k x = z := by rw [hx]; exact h
theorem bd_some {α β : Type} {x : Option (α × St)} {k : α → St → Option β} {r : β} (h : bd x k = some r) : ∃ a σ, x = some (a, σ) ∧ k a σ = some r := by
  cases x with
  | none => cases h
  | some q => exact ⟨q.1, q.2, rfl, h⟩
theorem lt_split {α β : Type} {K : α} {b : α → Option β} {r : β} (h : lt K b = some r) : ∃ J, J = K ∧ b J = some r := ⟨K, rfl, h⟩
theorem if_t {c : Prop} [Decidable c] {α : Type} {a b z : α} (h : (if c then a else b) = z) (hc : c) : a = z := by rw [if_pos hc] at h; exact h
theorem if_f {c : Prop} [Decidable c] {α : Type} {a b z : α} (h : (if c then a else b) = z) (hc : ¬ c) : b = z := by rw [if_neg hc] at h; exact h
theorem sw_out {x : Int32} (n : Nat) (h : ∀ k : Nat, k < n + 1 → ¬ x = nI k) : x.toInt < (0 : Int) ∨ (n : Int) < x.toInt := by
  by_cases h0 : x < 0
  · exact Or.inl (by rw [Int32.lt_iff_toInt_lt, Int32.toInt_zero] at h0; exact h0)
  · obtain ⟨j, hj, e⟩ := nI_of h0
    refine Or.inr ?_
    rw [e, nI_toInt hj]
    by_cases hc : j < n + 1
    · exact absurd e (h j hc)
    · omega
theorem ixb_in {i : Int32} {n : Nat} (h : ixb i n = true) : vp_in i n := vp_in_iff.mpr (of_decide_eq_true h)
theorem ixb_lt {i : Int32} {n : Nat} (h : ixb i n = true) : i.toNatClampNeg < n := by
  have h1 := of_decide_eq_true h
  show i.toInt.toNat < n
  omega
theorem nzb_ne {i : Int32} (h : nzb i = true) : ¬ i = 0 := of_decide_eq_true h
theorem nzl_ne {i : Int64} (h : nzl i = true) : ¬ i = 0 := of_decide_eq_true h
theorem zob_nar {i : Int32} (h : zob i = true) : narrow .boolean (.int i) = .int i := by
  have h1 : vp_nar .boolean i = i := of_decide_eq_true h
  unfold vp_nar at h1
  simp only [narrow] at h1 ⊢
  rw [h1]
/-- the walk's invariant: the world, its cells apart and free to change, nothing else changed -/
def Iv (E : En) (A : Nat → Prop) (H0 : Heap) (o : Int64) (σ : St) (H : Heap) (locs : List Loc) : Prop := va_P E.2.2 vwCl (gw E o σ) H ∧ va_D A (gw E o σ) ∧ va_S A H0 H locs
def Cx (p : Program) (c : Code) (cc : ByteArray) (nL : Nat) (s : State) (m : MethodId) (args : Array Value) (Ts : List Cond) (own : String) (E : En) : Prop := CallFix p m c cc nL s args Ts own ∧ va_K E.2.2 vwCl (gT E) s
def AA (E : En) (sz : Nat) : Nat → Prop := fun q => (∃ k, k < NW ∧ q = ad E k) ∨ sz ≤ q
def Pw (E : En) (o : Int64) (σ : St) (sz : Nat) (U : State) : Prop := U.heap.size = sz ∧ va_P E.2.2 vwCl (gw E o σ) U.heap ∧ va_K E.2.2 vwCl (gT E) U ∧ va_D (fun _ => True) (gw E o σ)
def Bw (E : En) (u : Int64 × St) (t : State) : Prop := va_P E.2.2 vwCl (gw E u.1 u.2) t.heap ∧ va_K E.2.2 vwCl (gT E) t ∧ va_D (fun _ => True) (gw E u.1 u.2)
abbrev Qi (E : En) (sz : Nat) (o : Int64) (r : Int32) (σ' : St) : Array Value → State → Outcome → State → Prop := va_Qi (fun r' (u : Int64 × St) => r' = r ∧ u = (o, σ')) (Bw E) (AA E sz)
abbrev Ql (E : En) (sz : Nat) (o : Int64) (r : Int64) (σ' : St) : Array Value → State → Outcome → State → Prop := va_Ql (fun r' (u : Int64 × St) => r' = r ∧ u = (o, σ')) (Bw E) (AA E sz)
abbrev Qv (E : En) (sz : Nat) (o : Int64) (σ' : St) : Array Value → State → Outcome → State → Prop := va_Qv (fun (u : Int64 × St) => u = (o, σ')) (Bw E) (AA E sz)
/-- the contracts of methods that don't throw: an int (or a truth value), a long, nothing -/
def CI (l : Launch) (y : MethodName) (ws : List Cond) (rm : Room) (E : En) (av : List Value) (o : Int64) (σ : St) (r : Int32) (σ' : St) : Prop := ∀ sz, Met l y ws rm (va_Pc av (Pw E o σ sz)) (Qi E sz o r σ') 0 0 (AA E sz)
def CL (l : Launch) (y : MethodName) (ws : List Cond) (rm : Room) (E : En) (av : List Value) (o : Int64) (σ : St) (r : Int64) (σ' : St) : Prop := ∀ sz, Met l y ws rm (va_Pc av (Pw E o σ sz)) (Ql E sz o r σ') 0 0 (AA E sz)
def CV (l : Launch) (y : MethodName) (ws : List Cond) (rm : Room) (E : En) (av : List Value) (o : Int64) (σ : St) (σ' : St) : Prop := ∀ sz, Met l y ws rm (va_Pc av (Pw E o σ sz)) (Qv E sz o σ') 0 0 (AA E sz)
theorem Pw.blind {E : En} {o : Int64} {σ : St} {sz : Nat} {av : List Value} : FrameBlind (va_Pc av (Pw E o σ sz)) := fun a U g mk q => by
  obtain ⟨q0, q1, qP, qK, qD⟩ := q
  exact ⟨q0, q1, qP, va_K.moved (u := U) (U := U.calling g mk a) (Vm.Alike.refl U.vm) qK, qD⟩
theorem Pw.start {E : En} {o : Int64} {σ : St} {s : State} {sz : Nat} (h : Pw E o σ sz s) : sz = s.heap.size ∧ va_K E.2.2 vwCl (gT E) s ∧ Iv E (AA E s.heap.size) s.heap o σ s.heap [] := by
  obtain ⟨h1, hP, hK, hD⟩ := h
  exact ⟨h1.symm, hK, hP, gw_D hD (fun k hk => Or.inl ⟨k, hk, rfl⟩), va_S.rf⟩
theorem AA.new {E : En} {sz : Nat} : ∀ q, sz ≤ q → AA E sz q := fun _ h => Or.inr h
section GR
variable {p : Program} {l : Launch} {e : Env} {R : Room} {s : State} {m : MethodId} {args : Array Value} {below : List Frame} {meth : Method} {c : Code} {H : Heap} {locs : List Loc} {cells slots : Nat} {Q : State → Prop}
variable {cc : ByteArray} {pc nL : Nat} {ls : Array Slot} {rest : List Value} {A : Nat → Prop} {H0 : Heap} {Ts : List Cond} {own : String} {E : En} {o : Int64} {σ : St}
theorem Iv.pre (I : Iv E A H0 o σ H locs) {U : State} (C : Cx p c cc nL s m args Ts own E) (hU : U.heap = H) (hW : s.WarmedH U.vm) : Pw E o σ H.size U := ⟨by rw [hU], by rw [hU]; exact I.1, va_K.moved hW.alike C.2, gw_D I.2.1 (fun _ _ => trivial)⟩
theorem Iv.sub (I : Iv E A H0 o σ H locs) (hA : ∀ q, H0.size ≤ q → A q) : ∀ q, AA E H.size q → A q := fun q h => by
  rcases h with ⟨k, hk, rfl⟩ | h
  · exact gw_A I.2.1 k hk
  · exact hA q (Nat.le_trans I.2.2.1 h)
theorem Iv.next (I : Iv E A H0 o σ H locs) {o' : Int64} {σ' : St} {t : State} {H1 : Heap} {locs1 : List Loc} (ht : t.heap = H1) (hB : Bw E (o', σ') t) (hS : va_S A H0 H1 locs1) : Iv E A H0 o' σ' H1 locs1 := ⟨by rw [← ht]; exact hB.1, gw_D I.2.1 (gw_A I.2.1), hS⟩
theorem g_begin {g : JFrame} (I : Iv E A s.heap o σ s.heap []) (k : ∀ (H : Heap) (locs : List Loc), Iv E A s.heap o σ H locs → W p l e R s m args below meth c H locs 0 0 Q g) : W p l e R s m args below meth c s.heap [] 0 0 Q g := k s.heap [] I
theorem g_iald (C : Cx p c cc nL s m args Ts own E) (I : Iv E A H0 o σ H locs) {k n : Nat} (hk : k < NW) (hg : ∀ r, gk E o k r = .inl (E.2.1 0, n, .inl r)) {i : Int32} (hin : vp_in i n) (hdg : decode cc pc = .ok (.iaload, 1))
    (kk : W p l e R s m args below meth c H locs cells slots Q (F0 m (pc + 1) ls (.int (rd σ k i) :: rest))) : W p l e R s m args below meth c H locs cells slots Q (F0 m pc ls (.int i :: .ref (ad E k) :: rest)) :=
  va_iald C.1.1 C.1.2.1 C.2 I.1 k 0 ((gw_at E o σ hk).trans (by rw [hg])) rfl hin hdg kk
theorem g_zald (C : Cx p c cc nL s m args Ts own E) (I : Iv E A H0 o σ H locs) {k n : Nat} (hk : k < NW) (hg : ∀ r, gk E o k r = .inl (E.2.1 1, n, .inl r)) {i : Int32} (hin : vp_in i n) (hdg : decode cc pc = .ok (.baload, 1))
    (kk : W p l e R s m args below meth c H locs cells slots Q (F0 m (pc + 1) ls (.int (rd σ k i) :: rest))) : W p l e R s m args below meth c H locs cells slots Q (F0 m pc ls (.int i :: .ref (ad E k) :: rest)) :=
  va_zald C.1.1 C.1.2.1 C.2 I.1 k 1 ((gw_at E o σ hk).trans (by rw [hg])) rfl hin hdg kk
theorem g_iast (C : Cx p c cc nL s m args Ts own E) (I : Iv E A H0 o σ H locs) {k n : Nat} (hk : k < NW) (hg : ∀ r, gk E o k r = .inl (E.2.1 0, n, .inl r)) {i x : Int32} (hin : vp_in i n) (hdg : decode cc pc = .ok (.iastore, 1))
    (kk : ∀ (H1 : Heap) (locs1 : List Loc) (σ1 : St), σ1 = wr σ k i x → Iv E A H0 o σ1 H1 locs1 → W p l e R s m args below meth c H1 locs1 cells slots Q (F0 m (pc + 1) ls rest)) : W p l e R s m args below meth c H locs cells slots Q (F0 m pc ls (.int x :: .int i :: .ref (ad E k) :: rest)) :=
  va_iast C.1.1 C.1.2.1 C.2 I.1 I.2.1 I.2.2 k 0 ((gw_at E o σ hk).trans (by rw [hg])) rfl hin hdg (fun H1 locs1 h1 h2 h3 => kk H1 locs1 _ rfl ⟨by rw [← gw_set E o σ hk, hg]; exact h1, by rw [← gw_set E o σ hk, hg]; exact h2, h3⟩)
theorem g_zast (C : Cx p c cc nL s m args Ts own E) (I : Iv E A H0 o σ H locs) {k n : Nat} (hk : k < NW) (hg : ∀ r, gk E o k r = .inl (E.2.1 1, n, .inl r)) {i x : Int32} (hin : vp_in i n) (hdg : decode cc pc = .ok (.bastore, 1))
    (kk : ∀ (H1 : Heap) (locs1 : List Loc) (σ1 : St), σ1 = wr σ k i (vp_nar .boolean x) → Iv E A H0 o σ1 H1 locs1 → W p l e R s m args below meth c H1 locs1 cells slots Q (F0 m (pc + 1) ls rest)) : W p l e R s m args below meth c H locs cells slots Q (F0 m pc ls (.int x :: .int i :: .ref (ad E k) :: rest)) :=
  va_zast C.1.1 C.1.2.1 C.2 I.1 I.2.1 I.2.2 k 1 ((gw_at E o σ hk).trans (by rw [hg])) rfl hin hdg (fun H1 locs1 h1 h2 h3 => kk H1 locs1 _ rfl ⟨by rw [← gw_set E o σ hk, hg]; exact h1, by rw [← gw_set E o σ hk, hg]; exact h2, h3⟩)
theorem g_aald (C : Cx p c cc nL s m args Ts own E) (I : Iv E A H0 o σ H locs) {k n b : Nat} (hk : k < NW) (hg : ∀ r, gk E o k r = .inl (E.2.1 2, n, .inr (.inr (.inr (.inr (fun j => if j < n then some (ad E (b + j)) else none)))))) {i : Int32} (hin : vp_in i n) (hlt : i.toNatClampNeg < n) (hdg : decode cc pc = .ok (.aaload, 1))
    (kk : W p l e R s m args below meth c H locs cells slots Q (F0 m (pc + 1) ls (.ref (ad E (b + i.toNatClampNeg)) :: rest))) : W p l e R s m args below meth c H locs cells slots Q (F0 m pc ls (.int i :: .ref (ad E k) :: rest)) := by
  have ha : (gw E o σ)[k]? = some (ad E k, .inl (E.2.1 2, n, .inr (.inr (.inr (.inr (fun j => if j < n then some (ad E (b + j)) else none)))))) := (gw_at E o σ hk).trans (by rw [hg])
  refine W.aald (v := .ref (ad E (b + i.toNatClampNeg))) (ty := .array .int) C.1.1 C.1.2.1 (I.1 k _ ha) ((C.2.2 2 _ rfl).1 n (fun j => va_rf (if j < n then some (ad E (b + j)) else none))) rfl (fun q => by cases q) (by show ¬ (i < 0 ∨ (arrV _ _ _).slots.size ≤ _); rw [arrV_size]; exact hin) (by show (arrV _ _ _).slots[_]? = _; rw [arrV_read _ _ hlt]; show some (va_rf (if i.toNatClampNeg < n then some (ad E (b + i.toNatClampNeg)) else none)) = _; rw [if_pos hlt]; rfl) rfl rfl hdg kk
theorem g_get (C : Cx p c cc nL s m args Ts own E) (I : Iv E A H0 o σ H locs) {k ci N : Nat} {Cn : String} {T : u_T} (hk : k < NW) {fs : List Value} (hg : gk E o k (σ k) = .inr (ci, fs)) (hc : vwCl[ci]? = some (Cn, T, N)) (hin : ∀ w ∈ u_ws Cn T N, w ∈ Ts) (j : Nat) (hj : j < N) {index : Nat} (hlink : (Cond.fieldLink own index (T j).1 (T j).2.1 (T j).2.2.1).before args s = true) {v : Value} (hv : fs[j]? = some v) (hdg : decode cc pc = .ok (.getfield index, 3))
    (kk : W p l e R s m args below meth c H locs cells slots Q (F0 m (pc + 3) ls (v :: rest))) : W p l e R s m args below meth c H locs cells slots Q (F0 m pc ls (.ref (ad E k) :: rest)) :=
  va_get C.1.1 C.1.2.1 C.1.2.2.2.2 hin C.1.2.2.2.1 C.2 I.1 k ((gw_at E o σ hk).trans (by rw [hg])) hc j hj hlink (fun _ h => h) hv hdg kk
theorem g_put (C : Cx p c cc nL s m args Ts own E) (I : Iv E A H0 o σ H locs) {k ci N : Nat} {Cn : String} {T : u_T} (hk : k < NW) {fs : (Nat → Int32) → List Value} (hg : ∀ r, gk E o k r = .inr (ci, fs r)) (hc : vwCl[ci]? = some (Cn, T, N)) (hin : ∀ w ∈ u_ws Cn T N, w ∈ Ts) (ty0 : Nat → FieldType) (hty : ∀ k, k < N → parseFieldDescriptor (T k).2.2.1 = some (ty0 k)) (hnm : ∀ a, a < N → ∀ b, b < N → a ≠ b → (T a).2.1 ≠ (T b).2.1) (j : Nat) (hj : j < N) {index : Nat} (hlink : (Cond.fieldLink own index (T j).1 (T j).2.1 (T j).2.2.1).before args s = true) (hfin : (T j).2.2.2 = false) {v : Int32} (hd : parseFieldDescriptor (T j).2.2.1 = some .int) (hl : j < (fs (σ k)).length) (hs : (fs (σ k)).set j (.int v) = fs (upd (σ k) j v)) (hdg : decode cc pc = .ok (.putfield index, 3))
    (kk : ∀ (H1 : Heap) (locs1 : List Loc) (σ1 : St), σ1 = wf σ k j v → Iv E A H0 o σ1 H1 locs1 → W p l e R s m args below meth c H1 locs1 cells slots Q (F0 m (pc + 3) ls rest)) : W p l e R s m args below meth c H locs cells slots Q (F0 m pc ls (.int v :: .ref (ad E k) :: rest)) :=
  va_put C.1.1 C.1.2.1 C.1.2.2.2.2 hin ty0 hty hnm C.1.2.2.2.1 C.2 I.1 I.2.1 I.2.2 k ((gw_at E o σ hk).trans (by rw [hg])) hc j hj hlink (fun _ h => h) hfin hd rfl rfl hl hdg (fun H1 locs1 h1 h2 h3 => kk H1 locs1 _ rfl ⟨by rw [← gw_set E o σ hk, hg, ← hs]; exact h1, by rw [← gw_set E o σ hk, hg, ← hs]; exact h2, h3⟩)
theorem g_iret (C : Cx p c cc nL s m args Ts own E) (I : Iv E (AA E s.heap.size) s.heap o σ H locs) (hr : meth.sig.returnType = some .int) (hlocks : meth.locks = false) {v : Int32} {res : Int32 × St} (hf : some (v, σ) = some res) (hdg : decode cc pc = .ok (.ireturn, 1)) :
    W p l e R s m args below meth c H locs 0 0 (MQ below (Qi E s.heap.size o res.1 res.2) args s 0 0 (AA E s.heap.size)) (F0 m pc ls [.int v]) := by
  cases hf
  exact W.iret (v := v) C.1.1 C.1.2.1 hr (fun t ht hW => ⟨⟨v, (o, σ), rfl, ⟨rfl, rfl⟩, by rw [ht]; exact I.1, va_K.moved hW.alike C.2, gw_D I.2.1 (fun _ _ => trivial)⟩, I.2.2.F ht⟩) I.2.2.2.2 hdg hlocks
theorem g_zret (C : Cx p c cc nL s m args Ts own E) (I : Iv E (AA E s.heap.size) s.heap o σ H locs) (hr : meth.sig.returnType = some .boolean) (hlocks : meth.locks = false) {v : Int32} {res : Int32 × St} (hn : narrow .boolean (.int v) = .int v) (hf : some (v, σ) = some res) (hdg : decode cc pc = .ok (.ireturn, 1)) :
    W p l e R s m args below meth c H locs 0 0 (MQ below (Qi E s.heap.size o res.1 res.2) args s 0 0 (AA E s.heap.size)) (F0 m pc ls [.int v]) := by
  cases hf
  exact W.zret (v := v) C.1.1 C.1.2.1 hr hn (fun t ht hW => ⟨⟨v, (o, σ), rfl, ⟨rfl, rfl⟩, by rw [ht]; exact I.1, va_K.moved hW.alike C.2, gw_D I.2.1 (fun _ _ => trivial)⟩, I.2.2.F ht⟩) I.2.2.2.2 hdg hlocks
theorem g_vret (C : Cx p c cc nL s m args Ts own E) (I : Iv E (AA E s.heap.size) s.heap o σ H locs) (hr : meth.sig.returnType = none) (hlocks : meth.locks = false) {z : Int32} {res : Int32 × St} (hf : some (z, σ) = some res) (hdg : decode cc pc = .ok (.return_, 1)) :
    W p l e R s m args below meth c H locs 0 0 (MQ below (Qv E s.heap.size o res.2) args s 0 0 (AA E s.heap.size)) (F0 m pc ls []) := by
  cases hf
  exact W.vret C.1.1 C.1.2.1 hr (fun t ht hW => ⟨⟨(o, σ), rfl, rfl, by rw [ht]; exact I.1, va_K.moved hW.alike C.2, gw_D I.2.1 (fun _ _ => trivial)⟩, I.2.2.F ht⟩) I.2.2.2.2 hdg hlocks
theorem g_lret (C : Cx p c cc nL s m args Ts own E) (I : Iv E (AA E s.heap.size) s.heap o σ H locs) (hr : meth.sig.returnType = some .long) (hlocks : meth.locks = false) {v : Int64} {res : Int64 × St} (hf : some (v, σ) = some res) (hdg : decode cc pc = .ok (.lreturn, 1)) :
    W p l e R s m args below meth c H locs 0 0 (MQ below (Ql E s.heap.size o res.1 res.2) args s 0 0 (AA E s.heap.size)) (F0 m pc ls [.long v]) := by
  cases hf
  exact W.lret (v := v) C.1.1 C.1.2.1 hr (fun t ht hW => ⟨⟨v, (o, σ), rfl, ⟨rfl, rfl⟩, by rw [ht]; exact I.1, va_K.moved hW.alike C.2, gw_D I.2.1 (fun _ _ => trivial)⟩, I.2.2.F ht⟩) I.2.2.2.2 hdg hlocks
variable {y : MethodName} {bytes : ByteArray} {maxL n index : Nat} {ret : Option FieldType} {wsC : List Cond} {rm : Room} {Cn : String} {av st : List Value} {σ' : St}
theorem g_cvi (C : Cx p c cc nL s m args Ts own E) (I : Iv E A H0 o σ H locs) (hA : ∀ q, H0.size ≤ q → A q) {k : Nat} {r : Int32} (hM : CI l y wsC rm E (.ref (ad E k) :: av) o σ r σ') (cw : CallW R s args own Cn index y bytes maxL ret wsC rm 0 0 n) (hk : k < NW) {ci : Nat} {fs : List Value} {q : vw_C} (hg : gk E o k (σ k) = .inr (ci, fs)) (hc : vwCl[ci]? = some q) (hq : q.1 = Cn) (hn : av.length = n) (hsize : ls.size = nL) (hst : st = av.reverse ++ .ref (ad E k) :: rest) (hW : (rest.map fun v => v.category).sum ≤ 8) (hf : cells ≤ R.cells ∧ slots ≤ R.slots) (hdg : decode cc pc = .ok (.invokevirtual index, 3))
    (kk : ∀ (H1 : Heap) (locs1 : List Loc), Iv E A H0 o σ' H1 locs1 → W p l e R s m args below meth c H1 locs1 cells slots Q (F0 m (pc + 3) ls (.int r :: rest))) : W p l e R s m args below meth c H locs cells slots Q (F0 m pc ls st) := by
  subst hq
  exact va_calli (va_runV (As := av) (rest := rest) C.1 (hM H.size) cw ⟨Pw.blind, va_recv C.2 I.1 hc ((gw_at E o σ hk).trans (by rw [hg])), fun U hU hW => ⟨rfl, I.pre C hU hW⟩⟩ rfl hn hsize hst (lv_room hW) hdg hf) I.2.2 (fun q _ h => I.sub hA q h) (I.sub hA)
    (fun r' u t H1 locs1 ht hvm hw hB hz1 hk1 hS => by obtain ⟨rfl, rfl⟩ := hw; exact kk H1 locs1 (I.next ht hB hS))
theorem g_cvv (C : Cx p c cc nL s m args Ts own E) (I : Iv E A H0 o σ H locs) (hA : ∀ q, H0.size ≤ q → A q) {k : Nat} (hM : CV l y wsC rm E (.ref (ad E k) :: av) o σ σ') (cw : CallW R s args own Cn index y bytes maxL ret wsC rm 0 0 n) (hk : k < NW) {ci : Nat} {fs : List Value} {q : vw_C} (hg : gk E o k (σ k) = .inr (ci, fs)) (hc : vwCl[ci]? = some q) (hq : q.1 = Cn) (hn : av.length = n) (hsize : ls.size = nL) (hst : st = av.reverse ++ .ref (ad E k) :: rest) (hW : (rest.map fun v => v.category).sum ≤ 8) (hf : cells ≤ R.cells ∧ slots ≤ R.slots) (hdg : decode cc pc = .ok (.invokevirtual index, 3))
    (kk : ∀ (H1 : Heap) (locs1 : List Loc), Iv E A H0 o σ' H1 locs1 → W p l e R s m args below meth c H1 locs1 cells slots Q (F0 m (pc + 3) ls rest)) : W p l e R s m args below meth c H locs cells slots Q (F0 m pc ls st) := by
  subst hq
  exact va_callv (va_runV (As := av) (rest := rest) C.1 (hM H.size) cw ⟨Pw.blind, va_recv C.2 I.1 hc ((gw_at E o σ hk).trans (by rw [hg])), fun U hU hW => ⟨rfl, I.pre C hU hW⟩⟩ rfl hn hsize hst (lv_room hW) hdg hf) I.2.2 (fun q _ h => I.sub hA q h) (I.sub hA)
    (fun u t H1 locs1 ht hvm hw hB hz1 hk1 hS => by obtain rfl := hw; exact kk H1 locs1 (I.next ht hB hS))
theorem g_cvl (C : Cx p c cc nL s m args Ts own E) (I : Iv E A H0 o σ H locs) (hA : ∀ q, H0.size ≤ q → A q) {k : Nat} {r : Int64} (hM : CL l y wsC rm E (.ref (ad E k) :: av) o σ r σ') (cw : CallW R s args own Cn index y bytes maxL ret wsC rm 0 0 n) (hk : k < NW) {ci : Nat} {fs : List Value} {q : vw_C} (hg : gk E o k (σ k) = .inr (ci, fs)) (hc : vwCl[ci]? = some q) (hq : q.1 = Cn) (hn : av.length = n) (hsize : ls.size = nL) (hst : st = av.reverse ++ .ref (ad E k) :: rest) (hW : (rest.map fun v => v.category).sum ≤ 8) (hf : cells ≤ R.cells ∧ slots ≤ R.slots) (hdg : decode cc pc = .ok (.invokevirtual index, 3))
    (kk : ∀ (H1 : Heap) (locs1 : List Loc), Iv E A H0 o σ' H1 locs1 → W p l e R s m args below meth c H1 locs1 cells slots Q (F0 m (pc + 3) ls (.long r :: rest))) : W p l e R s m args below meth c H locs cells slots Q (F0 m pc ls st) := by
  subst hq
  exact va_calll (va_runV (As := av) (rest := rest) C.1 (hM H.size) cw ⟨Pw.blind, va_recv C.2 I.1 hc ((gw_at E o σ hk).trans (by rw [hg])), fun U hU hW => ⟨rfl, I.pre C hU hW⟩⟩ rfl hn hsize hst (lv_room hW) hdg hf) I.2.2 (fun q _ h => I.sub hA q h) (I.sub hA)
    (fun r' u t H1 locs1 ht hvm hw hB hz1 hk1 hS => by obtain ⟨rfl, rfl⟩ := hw; exact kk H1 locs1 (I.next ht hB hS))
theorem g_csi (C : Cx p c cc nL s m args Ts own E) (I : Iv E A H0 o σ H locs) (hA : ∀ q, H0.size ≤ q → A q) {r : Int32} (hM : CI l y wsC rm E av o σ r σ') (cw : CallB R s args own index y bytes maxL ret wsC rm 0 0 n ∧ (Cond.static y).before args s = true) (hn : av.length = n) (hsize : ls.size = nL) (hst : st = av.reverse ++ rest) (hW : (rest.map fun v => v.category).sum ≤ 8) (hf : cells ≤ R.cells ∧ slots ≤ R.slots) (hdg : decode cc pc = .ok (.invokestatic index, 3))
    (kk : ∀ (H1 : Heap) (locs1 : List Loc), Iv E A H0 o σ' H1 locs1 → W p l e R s m args below meth c H1 locs1 cells slots Q (F0 m (pc + 3) ls (.int r :: rest))) : W p l e R s m args below meth c H locs cells slots Q (F0 m pc ls st) :=
  va_calli (va_runS (As := av) (rest := rest) C.1 (hM H.size) cw ⟨Pw.blind, fun U hU hW => ⟨rfl, I.pre C hU hW⟩⟩ rfl hn hsize hst (lv_room hW) hdg hf) I.2.2 (fun q _ h => I.sub hA q h) (I.sub hA)
    (fun r' u t H1 locs1 ht hvm hw hB hz1 hk1 hS => by obtain ⟨rfl, rfl⟩ := hw; exact kk H1 locs1 (I.next ht hB hS))
theorem g_csl (C : Cx p c cc nL s m args Ts own E) (I : Iv E A H0 o σ H locs) (hA : ∀ q, H0.size ≤ q → A q) {r : Int64} (hM : CL l y wsC rm E av o σ r σ') (cw : CallB R s args own index y bytes maxL ret wsC rm 0 0 n ∧ (Cond.static y).before args s = true) (hn : av.length = n) (hsize : ls.size = nL) (hst : st = av.reverse ++ rest) (hW : (rest.map fun v => v.category).sum ≤ 8) (hf : cells ≤ R.cells ∧ slots ≤ R.slots) (hdg : decode cc pc = .ok (.invokestatic index, 3))
    (kk : ∀ (H1 : Heap) (locs1 : List Loc), Iv E A H0 o σ' H1 locs1 → W p l e R s m args below meth c H1 locs1 cells slots Q (F0 m (pc + 3) ls (.long r :: rest))) : W p l e R s m args below meth c H locs cells slots Q (F0 m pc ls st) :=
  va_calll (va_runS (As := av) (rest := rest) C.1 (hM H.size) cw ⟨Pw.blind, fun U hU hW => ⟨rfl, I.pre C hU hW⟩⟩ rfl hn hsize hst (lv_room hW) hdg hf) I.2.2 (fun q _ h => I.sub hA q h) (I.sub hA)
    (fun r' u t H1 locs1 ht hvm hw hB hz1 hk1 hS => by obtain ⟨rfl, rfl⟩ := hw; exact kk H1 locs1 (I.next ht hB hS))
end GR

