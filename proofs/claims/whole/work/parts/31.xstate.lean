/-! the class's world: roles 0 to 14 stand; things from 100 on, four roles each; steps from 400 on, handlers from 600 on -/
def rT (x : Int32) : Option Nat := if x = 0 then none else some (100 + 4 * aN (x - 1))
abbrev TAU : Type := (Nat → Option Nat) × (Nat → Option Nat) × Int32 × Option Nat
def tr {α : Type} (z : α) (f : Nat → α) (k : Nat) : Nat → α := fun j => if j < 12 then f (12 * k + j) else z
def lnN (κ : KS) (k : Nat) : Nat := if sA κ 4 k ≤ 5 then aN (sA κ 5 k) else 0
def lnP (κ : KS) (k : Nat) : Nat := if sA κ 4 k = 6 ∨ sA κ 4 k = 7 then aN (sA κ 5 k) else 0
def lnM (κ : KS) (k : Nat) : Nat := if 8 ≤ sA κ 4 k ∧ sA κ 4 k ≤ 10 then aN (sA κ 5 k) else 0
def exT (q : Nat → ClassId) (ad : Nat → Nat) (κ : KS) (k : Nat) : Nat → va_E := fun j => match j with
  | 0 => .inr (6, [.int (sA κ 4 k), .int (sA κ 5 k), .ref (ad (101 + 4 * k)), .ref (ad (102 + 4 * k)), .ref (ad (103 + 4 * k)), .int (sA κ 7 k), .long (sJ κ 2 k), va_rf ((rT (sA κ 8 k)).map ad)])
  | 1 => .inl (q 1, lnN κ k, .inr (.inl (tr 0 (sJ κ 1) k)))
  | 2 => .inl (q 3, lnP κ k, .inr (.inr (.inr (.inl (tr FP.dconst0 (sD κ 1) k)))))
  | _ => .inl (q 6, lnM κ k, .inr (.inr (.inr (.inr (fun j => (rT (tr 0 (sA κ 6) k j)).map ad)))))
def exG (q : Nat → ClassId) (ad : Nat → Nat) (κ : KS) : Nat → va_E := fun i => if i < 400 then exT q ad κ ((i - 100) / 4) ((i - 100) % 4) else if i < 600 then .inr (5, [.int (sA κ 0 (4 * (i - 400))), .int (sA κ 0 (4 * (i - 400) + 1)), .int (sA κ 0 (4 * (i - 400) + 2)), .int (sA κ 0 (4 * (i - 400) + 3))]) else .inr (0, [.int (sA κ 1 (4 * (i - 600))), .int (sA κ 1 (4 * (i - 600) + 1)), .int (sA κ 1 (4 * (i - 600) + 2)), .int (sA κ 1 (4 * (i - 600) + 3))])
def exF (q : Nat → ClassId) (ad : Nat → Nat) (κ : KS) (τ : TAU) : Nat → va_E := fun i => match i with
  | 0 => .inr (8, [.ref (ad 1), .ref (ad 2), .ref (ad 3)])
  | 1 => .inr (1, [.ref (ad 6), .ref (ad 7), .int (sI κ 0), .int (sI κ 1)])
  | 2 => .inr (3, [.ref (ad 8), .ref (ad 9), .ref (ad 10), .ref (ad 11), .ref (ad 12)])
  | 3 => .inr (4, [.ref (ad 1), .ref (ad 2), .ref (ad 4), .ref (ad 5), .ref (ad 13), .ref (ad 14), .int (sI κ 3), .int (sI κ 4), .int τ.2.2.1, .int (sI κ 5), .int (sI κ 6), .int (sI κ 7), .int (sI κ 8), .int (sI κ 9), .int (sI κ 10), va_rf (τ.2.2.2.map ad)])
  | 4 => .inr (2, [.ref (ad 2)])
  | 5 => .inr (7, [.ref (ad 2), .int (sI κ 2)])
  | 6 => .inl (q 4, 150, .inr (.inr (.inr (.inr τ.1))))
  | 7 => .inl (q 5, 16, .inr (.inr (.inr (.inr τ.2.1))))
  | 8 => .inl (q 0, 8, .inl (sA κ 2))
  | 9 => .inl (q 1, 4, .inr (.inl (sJ κ 0)))
  | 10 => .inl (q 2, 4, .inr (.inr (.inl (sF κ))))
  | 11 => .inl (q 3, 4, .inr (.inr (.inr (.inl (sD κ 0)))))
  | 12 => .inl (q 6, 8, .inr (.inr (.inr (.inr (fun j => (rT (sA κ 3 j)).map ad)))))
  | 13 => .inl (q 0, 12, .inl (sA κ 9))
  | _ => .inl (q 0, 200, .inl (sA κ 10))
def exX (q : Nat → ClassId) (ad : Nat → Nat) (κ : KS) (τ : TAU) : Nat → va_E := fun i => if i < 15 then exF q ad κ τ i else exG q ad κ i
def lvX (κ : KS) : Nat → Prop := fun i => i < 15 ∨ (100 ≤ i ∧ i < 100 + 4 * aN (sI κ 2)) ∨ (400 ≤ i ∧ i < 400 + aN (sI κ 0)) ∨ (600 ≤ i ∧ i < 600 + aN (sI κ 1))
def wX (q : Nat → ClassId) (ad : Nat → Nat) (κ : KS) (τ : TAU) : wT := (ad, lvX κ, exX q ad κ τ)
theorem wXl {q : Nat → ClassId} {ad : Nat → Nat} {κ : KS} {τ : TAU} (i : Nat) (h : i < 15) : (wX q ad κ τ).2.1 i := Or.inl h
theorem exX_lt {q : Nat → ClassId} {ad : Nat → Nat} {κ : KS} {τ : TAU} {i : Nat} (h : i < 15) : exX q ad κ τ i = exF q ad κ τ i := if_pos h
theorem exX_ge {q : Nat → ClassId} {ad : Nat → Nat} {κ : KS} {τ : TAU} {i : Nat} (h : ¬ i < 15) : exX q ad κ τ i = exG q ad κ i := if_neg h
theorem exT0 {q : Nat → ClassId} {ad : Nat → Nat} {κ : KS} {τ : TAU} {k : Nat} (h : k < 75) : exX q ad κ τ (100 + 4 * k) = exT q ad κ k 0 := by
  rw [exX_ge (by omega)]; unfold exG; rw [if_pos (by omega), show (100 + 4 * k - 100) / 4 = k by omega, show (100 + 4 * k - 100) % 4 = 0 by omega]
theorem exT1 {q : Nat → ClassId} {ad : Nat → Nat} {κ : KS} {τ : TAU} {k : Nat} (h : k < 74) : exX q ad κ τ (101 + 4 * k) = exT q ad κ k 1 := by
  rw [exX_ge (by omega)]; unfold exG; rw [if_pos (by omega), show (101 + 4 * k - 100) / 4 = k by omega, show (101 + 4 * k - 100) % 4 = 1 by omega]
theorem exT2 {q : Nat → ClassId} {ad : Nat → Nat} {κ : KS} {τ : TAU} {k : Nat} (h : k < 74) : exX q ad κ τ (102 + 4 * k) = exT q ad κ k 2 := by
  rw [exX_ge (by omega)]; unfold exG; rw [if_pos (by omega), show (102 + 4 * k - 100) / 4 = k by omega, show (102 + 4 * k - 100) % 4 = 2 by omega]
theorem exT3 {q : Nat → ClassId} {ad : Nat → Nat} {κ : KS} {τ : TAU} {k : Nat} (h : k < 74) : exX q ad κ τ (103 + 4 * k) = exT q ad κ k 3 := by
  rw [exX_ge (by omega)]; unfold exG; rw [if_pos (by omega), show (103 + 4 * k - 100) / 4 = k by omega, show (103 + 4 * k - 100) % 4 = 3 by omega]
theorem exS {q : Nat → ClassId} {ad : Nat → Nat} {κ : KS} {τ : TAU} {k : Nat} (h : k < 200) : exX q ad κ τ (400 + k) = .inr (5, [.int (sA κ 0 (4 * k)), .int (sA κ 0 (4 * k + 1)), .int (sA κ 0 (4 * k + 2)), .int (sA κ 0 (4 * k + 3))]) := by
  rw [exX_ge (by omega)]; unfold exG; rw [if_neg (by omega), if_pos (by omega), show 400 + k - 400 = k by omega]
theorem exH {q : Nat → ClassId} {ad : Nat → Nat} {κ : KS} {τ : TAU} {k : Nat} : exX q ad κ τ (600 + k) = .inr (0, [.int (sA κ 1 (4 * k)), .int (sA κ 1 (4 * k + 1)), .int (sA κ 1 (4 * k + 2)), .int (sA κ 1 (4 * k + 3))]) := by
  rw [exX_ge (by omega)]; unfold exG; rw [if_neg (by omega), if_neg (by omega), show 600 + k - 600 = k by omega]
theorem xS_words {D : va_G} {q : Nat → ClassId} {A : Nat → Prop} {H0 : Heap} {s : State} {ad : Nat → Nat} {κ : KS} {τ : TAU} {H : Heap} {locs : List Loc} {v : Int32} {i0 : Nat} (h : rX D q A H0 s (wU (wX q ad κ τ) 8 (.inl (q 0, 8, .inl (va_up (sA κ 2) i0 v)))) H locs) : rX D q A H0 s (wX q ad (uA κ 2 i0 v) τ) H locs := by
  refine h.as (fun i hi => hi) (fun i hi => rfl) (fun i hi => ?_)
  show exX q ad (uA κ 2 i0 v) τ i = va_up (exX q ad κ τ) 8 (.inl (q 0, 8, .inl (va_up (sA κ 2) i0 v))) i
  by_cases hj : i < 15
  · match i, hj with
    | 0, _ => rfl
    | 1, _ => rfl
    | 2, _ => rfl
    | 3, _ => rfl
    | 4, _ => rfl
    | 5, _ => rfl
    | 6, _ => rfl
    | 7, _ => rfl
    | 8, _ => rfl
    | 9, _ => rfl
    | 10, _ => rfl
    | 11, _ => rfl
    | 12, _ => rfl
    | 13, _ => rfl
    | 14, _ => rfl
    | i + 15, hj => exact absurd hj (by omega)
  · rw [va_up_ne _ _ (by omega), exX_ge hj, exX_ge hj]; rfl
theorem xS_longs {D : va_G} {q : Nat → ClassId} {A : Nat → Prop} {H0 : Heap} {s : State} {ad : Nat → Nat} {κ : KS} {τ : TAU} {H : Heap} {locs : List Loc} {v : Int64} {i0 : Nat} (h : rX D q A H0 s (wU (wX q ad κ τ) 9 (.inl (q 1, 4, .inr (.inl (va_up (sJ κ 0) i0 v))))) H locs) : rX D q A H0 s (wX q ad (uJ κ 0 i0 v) τ) H locs := by
  refine h.as (fun i hi => hi) (fun i hi => rfl) (fun i hi => ?_)
  show exX q ad (uJ κ 0 i0 v) τ i = va_up (exX q ad κ τ) 9 (.inl (q 1, 4, .inr (.inl (va_up (sJ κ 0) i0 v)))) i
  by_cases hj : i < 15
  · match i, hj with
    | 0, _ => rfl
    | 1, _ => rfl
    | 2, _ => rfl
    | 3, _ => rfl
    | 4, _ => rfl
    | 5, _ => rfl
    | 6, _ => rfl
    | 7, _ => rfl
    | 8, _ => rfl
    | 9, _ => rfl
    | 10, _ => rfl
    | 11, _ => rfl
    | 12, _ => rfl
    | 13, _ => rfl
    | 14, _ => rfl
    | i + 15, hj => exact absurd hj (by omega)
  · rw [va_up_ne _ _ (by omega), exX_ge hj, exX_ge hj]; rfl
theorem xS_singles {D : va_G} {q : Nat → ClassId} {A : Nat → Prop} {H0 : Heap} {s : State} {ad : Nat → Nat} {κ : KS} {τ : TAU} {H : Heap} {locs : List Loc} {v : UInt32} {i0 : Nat} (h : rX D q A H0 s (wU (wX q ad κ τ) 10 (.inl (q 2, 4, .inr (.inr (.inl (va_up (sF κ) i0 v)))))) H locs) : rX D q A H0 s (wX q ad (uF κ i0 v) τ) H locs := by
  refine h.as (fun i hi => hi) (fun i hi => rfl) (fun i hi => ?_)
  show exX q ad (uF κ i0 v) τ i = va_up (exX q ad κ τ) 10 (.inl (q 2, 4, .inr (.inr (.inl (va_up (sF κ) i0 v))))) i
  by_cases hj : i < 15
  · match i, hj with
    | 0, _ => rfl
    | 1, _ => rfl
    | 2, _ => rfl
    | 3, _ => rfl
    | 4, _ => rfl
    | 5, _ => rfl
    | 6, _ => rfl
    | 7, _ => rfl
    | 8, _ => rfl
    | 9, _ => rfl
    | 10, _ => rfl
    | 11, _ => rfl
    | 12, _ => rfl
    | 13, _ => rfl
    | 14, _ => rfl
    | i + 15, hj => exact absurd hj (by omega)
  · rw [va_up_ne _ _ (by omega), exX_ge hj, exX_ge hj]; rfl
theorem xS_doubles {D : va_G} {q : Nat → ClassId} {A : Nat → Prop} {H0 : Heap} {s : State} {ad : Nat → Nat} {κ : KS} {τ : TAU} {H : Heap} {locs : List Loc} {v : UInt64} {i0 : Nat} (h : rX D q A H0 s (wU (wX q ad κ τ) 11 (.inl (q 3, 4, .inr (.inr (.inr (.inl (va_up (sD κ 0) i0 v))))))) H locs) : rX D q A H0 s (wX q ad (uD κ 0 i0 v) τ) H locs := by
  refine h.as (fun i hi => hi) (fun i hi => rfl) (fun i hi => ?_)
  show exX q ad (uD κ 0 i0 v) τ i = va_up (exX q ad κ τ) 11 (.inl (q 3, 4, .inr (.inr (.inr (.inl (va_up (sD κ 0) i0 v)))))) i
  by_cases hj : i < 15
  · match i, hj with
    | 0, _ => rfl
    | 1, _ => rfl
    | 2, _ => rfl
    | 3, _ => rfl
    | 4, _ => rfl
    | 5, _ => rfl
    | 6, _ => rfl
    | 7, _ => rfl
    | 8, _ => rfl
    | 9, _ => rfl
    | 10, _ => rfl
    | 11, _ => rfl
    | 12, _ => rfl
    | 13, _ => rfl
    | 14, _ => rfl
    | i + 15, hj => exact absurd hj (by omega)
  · rw [va_up_ne _ _ (by omega), exX_ge hj, exX_ge hj]; rfl
theorem xS_calls {D : va_G} {q : Nat → ClassId} {A : Nat → Prop} {H0 : Heap} {s : State} {ad : Nat → Nat} {κ : KS} {τ : TAU} {H : Heap} {locs : List Loc} {v : Int32} {i0 : Nat} (h : rX D q A H0 s (wU (wX q ad κ τ) 13 (.inl (q 0, 12, .inl (va_up (sA κ 9) i0 v)))) H locs) : rX D q A H0 s (wX q ad (uA κ 9 i0 v) τ) H locs := by
  refine h.as (fun i hi => hi) (fun i hi => rfl) (fun i hi => ?_)
  show exX q ad (uA κ 9 i0 v) τ i = va_up (exX q ad κ τ) 13 (.inl (q 0, 12, .inl (va_up (sA κ 9) i0 v))) i
  by_cases hj : i < 15
  · match i, hj with
    | 0, _ => rfl
    | 1, _ => rfl
    | 2, _ => rfl
    | 3, _ => rfl
    | 4, _ => rfl
    | 5, _ => rfl
    | 6, _ => rfl
    | 7, _ => rfl
    | 8, _ => rfl
    | 9, _ => rfl
    | 10, _ => rfl
    | 11, _ => rfl
    | 12, _ => rfl
    | 13, _ => rfl
    | 14, _ => rfl
    | i + 15, hj => exact absurd hj (by omega)
  · rw [va_up_ne _ _ (by omega), exX_ge hj, exX_ge hj]; rfl
theorem xS_told {D : va_G} {q : Nat → ClassId} {A : Nat → Prop} {H0 : Heap} {s : State} {ad : Nat → Nat} {κ : KS} {τ : TAU} {H : Heap} {locs : List Loc} {v : Int32} {i0 : Nat} (h : rX D q A H0 s (wU (wX q ad κ τ) 14 (.inl (q 0, 200, .inl (va_up (sA κ 10) i0 v)))) H locs) : rX D q A H0 s (wX q ad (uA κ 10 i0 v) τ) H locs := by
  refine h.as (fun i hi => hi) (fun i hi => rfl) (fun i hi => ?_)
  show exX q ad (uA κ 10 i0 v) τ i = va_up (exX q ad κ τ) 14 (.inl (q 0, 200, .inl (va_up (sA κ 10) i0 v))) i
  by_cases hj : i < 15
  · match i, hj with
    | 0, _ => rfl
    | 1, _ => rfl
    | 2, _ => rfl
    | 3, _ => rfl
    | 4, _ => rfl
    | 5, _ => rfl
    | 6, _ => rfl
    | 7, _ => rfl
    | 8, _ => rfl
    | 9, _ => rfl
    | 10, _ => rfl
    | 11, _ => rfl
    | 12, _ => rfl
    | 13, _ => rfl
    | 14, _ => rfl
    | i + 15, hj => exact absurd hj (by omega)
  · rw [va_up_ne _ _ (by omega), exX_ge hj, exX_ge hj]; rfl
theorem rT_up (ad : Nat → Nat) (f : Nat → Int32) (i : Nat) (v : Int32) : (fun j => (rT (va_up f i v j)).map ad) = va_up (fun j => (rT (f j)).map ad) i ((rT v).map ad) := by
  funext j
  by_cases h : j = i
  · subst h; rw [va_up_self, va_up_self]
  · rw [va_up_ne _ _ h, va_up_ne _ _ h]
theorem xS_refs {D : va_G} {q : Nat → ClassId} {A : Nat → Prop} {H0 : Heap} {s : State} {ad : Nat → Nat} {κ : KS} {τ : TAU} {H : Heap} {locs : List Loc} {v : Int32} {i0 : Nat} {x : Option Nat} (hx : (rT v).map ad = x) (h : rX D q A H0 s (wU (wX q ad κ τ) 12 (.inl (q 6, 8, .inr (.inr (.inr (.inr (va_up (fun j => (rT (sA κ 3 j)).map ad) i0 x))))))) H locs) : rX D q A H0 s (wX q ad (uA κ 3 i0 v) τ) H locs := by
  subst hx
  rw [← rT_up] at h
  refine h.as (fun i hi => hi) (fun i hi => rfl) (fun i hi => ?_)
  show exX q ad (uA κ 3 i0 v) τ i = va_up (exX q ad κ τ) 12 (.inl (q 6, 8, .inr (.inr (.inr (.inr (fun j => (rT (va_up (sA κ 3) i0 v j)).map ad)))))) i
  by_cases hj : i < 15
  · match i, hj with
    | 0, _ => rfl
    | 1, _ => rfl
    | 2, _ => rfl
    | 3, _ => rfl
    | 4, _ => rfl
    | 5, _ => rfl
    | 6, _ => rfl
    | 7, _ => rfl
    | 8, _ => rfl
    | 9, _ => rfl
    | 10, _ => rfl
    | 11, _ => rfl
    | 12, _ => rfl
    | 13, _ => rfl
    | 14, _ => rfl
    | i + 15, hj => exact absurd hj (by omega)
  · rw [va_up_ne _ _ (by omega), exX_ge hj, exX_ge hj]; rfl
abbrev fsR (ad : Nat → Nat) (κ : KS) (τ : TAU) : List Value := [.ref (ad 1), .ref (ad 2), .ref (ad 4), .ref (ad 5), .ref (ad 13), .ref (ad 14), .int (sI κ 3), .int (sI κ 4), .int τ.2.2.1, .int (sI κ 5), .int (sI κ 6), .int (sI κ 7), .int (sI κ 8), .int (sI κ 9), .int (sI κ 10), va_rf (τ.2.2.2.map ad)]
theorem xP_phase {D : va_G} {q : Nat → ClassId} {A : Nat → Prop} {H0 : Heap} {s : State} {ad : Nat → Nat} {κ : KS} {τ : TAU} {H : Heap} {locs : List Loc} {v : Int32} (h : rX D q A H0 s (wU (wX q ad κ τ) 3 (.inr (4, (fsR ad κ τ).set 6 (.int v)))) H locs) : rX D q A H0 s (wX q ad (uI κ 3 v) τ) H locs := by
  refine h.as (fun i hi => hi) (fun i hi => rfl) (fun i hi => ?_)
  show exX q ad (uI κ 3 v) τ i = va_up (exX q ad κ τ) 3 (.inr (4, (fsR ad κ τ).set 6 (.int v))) i
  by_cases hj : i < 15
  · match i, hj with
    | 0, _ => rfl
    | 1, _ => rfl
    | 2, _ => rfl
    | 3, _ => rfl
    | 4, _ => rfl
    | 5, _ => rfl
    | 6, _ => rfl
    | 7, _ => rfl
    | 8, _ => rfl
    | 9, _ => rfl
    | 10, _ => rfl
    | 11, _ => rfl
    | 12, _ => rfl
    | 13, _ => rfl
    | 14, _ => rfl
    | i + 15, hj => exact absurd hj (by omega)
  · rw [va_up_ne _ _ (by omega), exX_ge hj, exX_ge hj]; rfl
theorem xP_place {D : va_G} {q : Nat → ClassId} {A : Nat → Prop} {H0 : Heap} {s : State} {ad : Nat → Nat} {κ : KS} {τ : TAU} {H : Heap} {locs : List Loc} {v : Int32} (h : rX D q A H0 s (wU (wX q ad κ τ) 3 (.inr (4, (fsR ad κ τ).set 7 (.int v)))) H locs) : rX D q A H0 s (wX q ad (uI κ 4 v) τ) H locs := by
  refine h.as (fun i hi => hi) (fun i hi => rfl) (fun i hi => ?_)
  show exX q ad (uI κ 4 v) τ i = va_up (exX q ad κ τ) 3 (.inr (4, (fsR ad κ τ).set 7 (.int v))) i
  by_cases hj : i < 15
  · match i, hj with
    | 0, _ => rfl
    | 1, _ => rfl
    | 2, _ => rfl
    | 3, _ => rfl
    | 4, _ => rfl
    | 5, _ => rfl
    | 6, _ => rfl
    | 7, _ => rfl
    | 8, _ => rfl
    | 9, _ => rfl
    | 10, _ => rfl
    | 11, _ => rfl
    | 12, _ => rfl
    | 13, _ => rfl
    | 14, _ => rfl
    | i + 15, hj => exact absurd hj (by omega)
  · rw [va_up_ne _ _ (by omega), exX_ge hj, exX_ge hj]; rfl
theorem xP_stepsDone {D : va_G} {q : Nat → ClassId} {A : Nat → Prop} {H0 : Heap} {s : State} {ad : Nat → Nat} {κ : KS} {τ : TAU} {H : Heap} {locs : List Loc} {v : Int32} (h : rX D q A H0 s (wU (wX q ad κ τ) 3 (.inr (4, (fsR ad κ τ).set 9 (.int v)))) H locs) : rX D q A H0 s (wX q ad (uI κ 5 v) τ) H locs := by
  refine h.as (fun i hi => hi) (fun i hi => rfl) (fun i hi => ?_)
  show exX q ad (uI κ 5 v) τ i = va_up (exX q ad κ τ) 3 (.inr (4, (fsR ad κ τ).set 9 (.int v))) i
  by_cases hj : i < 15
  · match i, hj with
    | 0, _ => rfl
    | 1, _ => rfl
    | 2, _ => rfl
    | 3, _ => rfl
    | 4, _ => rfl
    | 5, _ => rfl
    | 6, _ => rfl
    | 7, _ => rfl
    | 8, _ => rfl
    | 9, _ => rfl
    | 10, _ => rfl
    | 11, _ => rfl
    | 12, _ => rfl
    | 13, _ => rfl
    | 14, _ => rfl
    | i + 15, hj => exact absurd hj (by omega)
  · rw [va_up_ne _ _ (by omega), exX_ge hj, exX_ge hj]; rfl
theorem xP_callCount {D : va_G} {q : Nat → ClassId} {A : Nat → Prop} {H0 : Heap} {s : State} {ad : Nat → Nat} {κ : KS} {τ : TAU} {H : Heap} {locs : List Loc} {v : Int32} (h : rX D q A H0 s (wU (wX q ad κ τ) 3 (.inr (4, (fsR ad κ τ).set 10 (.int v)))) H locs) : rX D q A H0 s (wX q ad (uI κ 6 v) τ) H locs := by
  refine h.as (fun i hi => hi) (fun i hi => rfl) (fun i hi => ?_)
  show exX q ad (uI κ 6 v) τ i = va_up (exX q ad κ τ) 3 (.inr (4, (fsR ad κ τ).set 10 (.int v))) i
  by_cases hj : i < 15
  · match i, hj with
    | 0, _ => rfl
    | 1, _ => rfl
    | 2, _ => rfl
    | 3, _ => rfl
    | 4, _ => rfl
    | 5, _ => rfl
    | 6, _ => rfl
    | 7, _ => rfl
    | 8, _ => rfl
    | 9, _ => rfl
    | 10, _ => rfl
    | 11, _ => rfl
    | 12, _ => rfl
    | 13, _ => rfl
    | 14, _ => rfl
    | i + 15, hj => exact absurd hj (by omega)
  · rw [va_up_ne _ _ (by omega), exX_ge hj, exX_ge hj]; rfl
theorem xP_toldCount {D : va_G} {q : Nat → ClassId} {A : Nat → Prop} {H0 : Heap} {s : State} {ad : Nat → Nat} {κ : KS} {τ : TAU} {H : Heap} {locs : List Loc} {v : Int32} (h : rX D q A H0 s (wU (wX q ad κ τ) 3 (.inr (4, (fsR ad κ τ).set 11 (.int v)))) H locs) : rX D q A H0 s (wX q ad (uI κ 7 v) τ) H locs := by
  refine h.as (fun i hi => hi) (fun i hi => rfl) (fun i hi => ?_)
  show exX q ad (uI κ 7 v) τ i = va_up (exX q ad κ τ) 3 (.inr (4, (fsR ad κ τ).set 11 (.int v))) i
  by_cases hj : i < 15
  · match i, hj with
    | 0, _ => rfl
    | 1, _ => rfl
    | 2, _ => rfl
    | 3, _ => rfl
    | 4, _ => rfl
    | 5, _ => rfl
    | 6, _ => rfl
    | 7, _ => rfl
    | 8, _ => rfl
    | 9, _ => rfl
    | 10, _ => rfl
    | 11, _ => rfl
    | 12, _ => rfl
    | 13, _ => rfl
    | 14, _ => rfl
    | i + 15, hj => exact absurd hj (by omega)
  · rw [va_up_ne _ _ (by omega), exX_ge hj, exX_ge hj]; rfl
theorem xP_failureCount {D : va_G} {q : Nat → ClassId} {A : Nat → Prop} {H0 : Heap} {s : State} {ad : Nat → Nat} {κ : KS} {τ : TAU} {H : Heap} {locs : List Loc} {v : Int32} (h : rX D q A H0 s (wU (wX q ad κ τ) 3 (.inr (4, (fsR ad κ τ).set 12 (.int v)))) H locs) : rX D q A H0 s (wX q ad (uI κ 8 v) τ) H locs := by
  refine h.as (fun i hi => hi) (fun i hi => rfl) (fun i hi => ?_)
  show exX q ad (uI κ 8 v) τ i = va_up (exX q ad κ τ) 3 (.inr (4, (fsR ad κ τ).set 12 (.int v))) i
  by_cases hj : i < 15
  · match i, hj with
    | 0, _ => rfl
    | 1, _ => rfl
    | 2, _ => rfl
    | 3, _ => rfl
    | 4, _ => rfl
    | 5, _ => rfl
    | 6, _ => rfl
    | 7, _ => rfl
    | 8, _ => rfl
    | 9, _ => rfl
    | 10, _ => rfl
    | 11, _ => rfl
    | 12, _ => rfl
    | 13, _ => rfl
    | 14, _ => rfl
    | i + 15, hj => exact absurd hj (by omega)
  · rw [va_up_ne _ _ (by omega), exX_ge hj, exX_ge hj]; rfl
theorem xP_failure {D : va_G} {q : Nat → ClassId} {A : Nat → Prop} {H0 : Heap} {s : State} {ad : Nat → Nat} {κ : KS} {τ : TAU} {H : Heap} {locs : List Loc} {v : Int32} (h : rX D q A H0 s (wU (wX q ad κ τ) 3 (.inr (4, (fsR ad κ τ).set 13 (.int v)))) H locs) : rX D q A H0 s (wX q ad (uI κ 9 v) τ) H locs := by
  refine h.as (fun i hi => hi) (fun i hi => rfl) (fun i hi => ?_)
  show exX q ad (uI κ 9 v) τ i = va_up (exX q ad κ τ) 3 (.inr (4, (fsR ad κ τ).set 13 (.int v))) i
  by_cases hj : i < 15
  · match i, hj with
    | 0, _ => rfl
    | 1, _ => rfl
    | 2, _ => rfl
    | 3, _ => rfl
    | 4, _ => rfl
    | 5, _ => rfl
    | 6, _ => rfl
    | 7, _ => rfl
    | 8, _ => rfl
    | 9, _ => rfl
    | 10, _ => rfl
    | 11, _ => rfl
    | 12, _ => rfl
    | 13, _ => rfl
    | 14, _ => rfl
    | i + 15, hj => exact absurd hj (by omega)
  · rw [va_up_ne _ _ (by omega), exX_ge hj, exX_ge hj]; rfl
theorem xP_failurePlace {D : va_G} {q : Nat → ClassId} {A : Nat → Prop} {H0 : Heap} {s : State} {ad : Nat → Nat} {κ : KS} {τ : TAU} {H : Heap} {locs : List Loc} {v : Int32} (h : rX D q A H0 s (wU (wX q ad κ τ) 3 (.inr (4, (fsR ad κ τ).set 14 (.int v)))) H locs) : rX D q A H0 s (wX q ad (uI κ 10 v) τ) H locs := by
  refine h.as (fun i hi => hi) (fun i hi => rfl) (fun i hi => ?_)
  show exX q ad (uI κ 10 v) τ i = va_up (exX q ad κ τ) 3 (.inr (4, (fsR ad κ τ).set 14 (.int v))) i
  by_cases hj : i < 15
  · match i, hj with
    | 0, _ => rfl
    | 1, _ => rfl
    | 2, _ => rfl
    | 3, _ => rfl
    | 4, _ => rfl
    | 5, _ => rfl
    | 6, _ => rfl
    | 7, _ => rfl
    | 8, _ => rfl
    | 9, _ => rfl
    | 10, _ => rfl
    | 11, _ => rfl
    | 12, _ => rfl
    | 13, _ => rfl
    | 14, _ => rfl
    | i + 15, hj => exact absurd hj (by omega)
  · rw [va_up_ne _ _ (by omega), exX_ge hj, exX_ge hj]; rfl
theorem xP_next {D : va_G} {q : Nat → ClassId} {A : Nat → Prop} {H0 : Heap} {s : State} {ad : Nat → Nat} {κ : KS} {τ : TAU} {H : Heap} {locs : List Loc} {v : Int32} (h : rX D q A H0 s (wU (wX q ad κ τ) 3 (.inr (4, (fsR ad κ τ).set 8 (.int v)))) H locs) : rX D q A H0 s (wX q ad κ (τ.1, τ.2.1, v, τ.2.2.2)) H locs := by
  refine h.as (fun i hi => hi) (fun i hi => rfl) (fun i hi => ?_)
  show exX q ad κ (τ.1, τ.2.1, v, τ.2.2.2) i = va_up (exX q ad κ τ) 3 (.inr (4, (fsR ad κ τ).set 8 (.int v))) i
  by_cases hj : i < 15
  · match i, hj with
    | 0, _ => rfl
    | 1, _ => rfl
    | 2, _ => rfl
    | 3, _ => rfl
    | 4, _ => rfl
    | 5, _ => rfl
    | 6, _ => rfl
    | 7, _ => rfl
    | 8, _ => rfl
    | 9, _ => rfl
    | 10, _ => rfl
    | 11, _ => rfl
    | 12, _ => rfl
    | 13, _ => rfl
    | 14, _ => rfl
    | i + 15, hj => exact absurd hj (by omega)
  · rw [va_up_ne _ _ (by omega), exX_ge hj, exX_ge hj]
theorem xP_thrown {D : va_G} {q : Nat → ClassId} {A : Nat → Prop} {H0 : Heap} {s : State} {ad : Nat → Nat} {κ : KS} {τ : TAU} {H : Heap} {locs : List Loc} {v : Option Nat} (h : rX D q A H0 s (wU (wX q ad κ τ) 3 (.inr (4, (fsR ad κ τ).set 15 (va_rf (v.map ad))))) H locs) : rX D q A H0 s (wX q ad κ (τ.1, τ.2.1, τ.2.2.1, v)) H locs := by
  refine h.as (fun i hi => hi) (fun i hi => rfl) (fun i hi => ?_)
  show exX q ad κ (τ.1, τ.2.1, τ.2.2.1, v) i = va_up (exX q ad κ τ) 3 (.inr (4, (fsR ad κ τ).set 15 (va_rf (v.map ad)))) i
  by_cases hj : i < 15
  · match i, hj with
    | 0, _ => rfl
    | 1, _ => rfl
    | 2, _ => rfl
    | 3, _ => rfl
    | 4, _ => rfl
    | 5, _ => rfl
    | 6, _ => rfl
    | 7, _ => rfl
    | 8, _ => rfl
    | 9, _ => rfl
    | 10, _ => rfl
    | 11, _ => rfl
    | 12, _ => rfl
    | 13, _ => rfl
    | 14, _ => rfl
    | i + 15, hj => exact absurd hj (by omega)
  · rw [va_up_ne _ _ (by omega), exX_ge hj, exX_ge hj]
theorem exX_as {q : Nat → ClassId} {ad : Nat → Nat} {κ κ' : KS} {τ : TAU} (hF : ∀ i, i < 15 → exF q ad κ' τ i = exF q ad κ τ i) (hS : ∀ i, ¬ i < 400 → exG q ad κ' i = exG q ad κ i) {R : Nat} {e : va_E} (hR : 100 ≤ R ∧ R < 400) (hT : ∀ i, 100 ≤ i → i < 400 → exT q ad κ' ((i - 100) / 4) ((i - 100) % 4) = va_up (exX q ad κ τ) R e i) : ∀ i, lvX κ i → exX q ad κ' τ i = va_up (exX q ad κ τ) R e i := by
  intro i hi
  by_cases hj : i < 15
  · rw [va_up_ne _ _ (by omega), exX_lt hj, exX_lt hj]; exact hF i hj
  · by_cases h4 : i < 400
    · have h1 : 100 ≤ i := by rcases hi with h | h | h | h <;> omega
      rw [← hT i h1 h4, exX_ge hj]; unfold exG; rw [if_pos h4]
    · rw [va_up_ne _ _ (by omega), exX_ge hj, exX_ge hj]; exact hS i h4
theorem fin15 {P : Nat → Prop} (h : P 0 ∧ P 1 ∧ P 2 ∧ P 3 ∧ P 4 ∧ P 5 ∧ P 6 ∧ P 7 ∧ P 8 ∧ P 9 ∧ P 10 ∧ P 11 ∧ P 12 ∧ P 13 ∧ P 14) : ∀ i, i < 15 → P i := by
  obtain ⟨h0, h1, h2, h3, h4, h5, h6, h7, h8, h9, h10, h11, h12, h13, h14⟩ := h
  intro i hi
  match i, hi with
  | 0, _ => exact h0
  | 1, _ => exact h1
  | 2, _ => exact h2
  | 3, _ => exact h3
  | 4, _ => exact h4
  | 5, _ => exact h5
  | 6, _ => exact h6
  | 7, _ => exact h7
  | 8, _ => exact h8
  | 9, _ => exact h9
  | 10, _ => exact h10
  | 11, _ => exact h11
  | 12, _ => exact h12
  | 13, _ => exact h13
  | 14, _ => exact h14
  | i + 15, hi => exact absurd hi (by omega)
theorem exT_of {q : Nat → ClassId} {ad : Nat → Nat} {κ : KS} {τ : TAU} {i : Nat} (h1 : 100 ≤ i) (h2 : i < 400) : exX q ad κ τ i = exT q ad κ ((i - 100) / 4) ((i - 100) % 4) := by
  rw [exX_ge (by omega)]; unfold exG; rw [if_pos h2]
theorem tr_up {α : Type} (z : α) (f : Nat → α) (k x : Nat) (v : α) (hx : x < 12) (k2 : Nat) : tr z (va_up f (12 * k + x) v) k2 = if k2 = k then va_up (tr z f k) x v else tr z f k2 := by
  funext j
  by_cases hk : k2 = k
  · subst hk
    rw [if_pos rfl]
    unfold tr va_up
    by_cases hj : j < 12
    · by_cases e : j = x
      · subst e; simp [hj]
      · have : ¬ 12 * k2 + j = 12 * k2 + x := by omega
        simp [hj, e, this]
    · have e : ¬ j = x := by omega
      simp [hj, e]
  · rw [if_neg hk]
    unfold tr va_up
    by_cases hj : j < 12
    · have : ¬ 12 * k2 + j = 12 * k + x := by omega
      simp [hj, this]
    · simp [hj]
theorem uA_same (κ : KS) (k i : Nat) (v : Int32) : sA (uA κ k i v) k = va_up (sA κ k) i v := by simp [sA, uA, va_up]
abbrev fsT (ad : Nat → Nat) (κ : KS) (k : Nat) : List Value := [.int (sA κ 4 k), .int (sA κ 5 k), .ref (ad (101 + 4 * k)), .ref (ad (102 + 4 * k)), .ref (ad (103 + 4 * k)), .int (sA κ 7 k), .long (sJ κ 2 k), va_rf ((rT (sA κ 8 k)).map ad)]
theorem xT_tag {D : va_G} {q : Nat → ClassId} {A : Nat → Prop} {H0 : Heap} {s : State} {ad : Nat → Nat} {κ : KS} {τ : TAU} {H : Heap} {locs : List Loc} {k : Nat} (hk : k < 60) {v : Int32} (h : rX D q A H0 s (wU (wX q ad κ τ) (100 + 4 * k) (.inr (6, (fsT ad κ k).set 5 (.int v)))) H locs) : rX D q A H0 s (wX q ad (uA κ 7 k v) τ) H locs := by
  refine h.as (fun i hi => hi) (fun i hi => rfl) (exX_as (q := q) (ad := ad) (κ := κ) (κ' := (uA κ 7 k v)) (τ := τ) (R := 100 + 4 * k) (e := .inr (6, (fsT ad κ k).set 5 (.int v))) (fin15 ⟨rfl, rfl, rfl, rfl, rfl, rfl, rfl, rfl, rfl, rfl, rfl, rfl, rfl, rfl, rfl⟩) (fun i h4 => by unfold exG; rw [if_neg h4, if_neg h4]; rfl) (by omega) (fun i h1 h2 => ?_))
  obtain ⟨k2, j, hj, rfl⟩ : ∃ k2 j, j < 4 ∧ i = 100 + 4 * k2 + j := ⟨(i - 100) / 4, (i - 100) % 4, by omega, by omega⟩
  rw [show (100 + 4 * k2 + j - 100) / 4 = k2 by omega, show (100 + 4 * k2 + j - 100) % 4 = j by omega]
  by_cases hkk : k2 = k
  · subst hkk
    match j, hj with
    | 0, _ => rw [show 100 + 4 * k2 + 0 = 100 + 4 * k2 by omega, va_up_self]; show (Sum.inr (6, [.int (sA κ 4 k2), .int (sA κ 5 k2), .ref (ad (101 + 4 * k2)), .ref (ad (102 + 4 * k2)), .ref (ad (103 + 4 * k2)), .int (va_up (sA κ 7) k2 v k2), .long (sJ κ 2 k2), va_rf ((rT (sA κ 8 k2)).map ad)]) : va_E) = _; rw [va_up_self]; rfl
    | 1, _ => rw [va_up_ne _ _ (by omega), exT_of (by omega) (by omega), show (100 + 4 * k2 + 1 - 100) / 4 = k2 by omega, show (100 + 4 * k2 + 1 - 100) % 4 = 1 by omega]; rfl
    | 2, _ => rw [va_up_ne _ _ (by omega), exT_of (by omega) (by omega), show (100 + 4 * k2 + 2 - 100) / 4 = k2 by omega, show (100 + 4 * k2 + 2 - 100) % 4 = 2 by omega]; rfl
    | 3, _ => rw [va_up_ne _ _ (by omega), exT_of (by omega) (by omega), show (100 + 4 * k2 + 3 - 100) / 4 = k2 by omega, show (100 + 4 * k2 + 3 - 100) % 4 = 3 by omega]; rfl
    | j + 4, hj => exact absurd hj (by omega)
  · rw [va_up_ne _ _ (by omega), exT_of (by omega) (by omega), show (100 + 4 * k2 + j - 100) / 4 = k2 by omega, show (100 + 4 * k2 + j - 100) % 4 = j by omega]
    match j, hj with
    | 0, _ => show (Sum.inr (6, [.int (sA κ 4 k2), .int (sA κ 5 k2), .ref (ad (101 + 4 * k2)), .ref (ad (102 + 4 * k2)), .ref (ad (103 + 4 * k2)), .int (va_up (sA κ 7) k v k2), .long (sJ κ 2 k2), va_rf ((rT (sA κ 8 k2)).map ad)]) : va_E) = _; rw [va_up_ne _ _ hkk]; rfl
    | 1, _ => rfl
    | 2, _ => rfl
    | 3, _ => rfl
    | j + 4, hj => exact absurd hj (by omega)
theorem xT_weight {D : va_G} {q : Nat → ClassId} {A : Nat → Prop} {H0 : Heap} {s : State} {ad : Nat → Nat} {κ : KS} {τ : TAU} {H : Heap} {locs : List Loc} {k : Nat} (hk : k < 60) {v : Int64} (h : rX D q A H0 s (wU (wX q ad κ τ) (100 + 4 * k) (.inr (6, (fsT ad κ k).set 6 (.long v)))) H locs) : rX D q A H0 s (wX q ad (uJ κ 2 k v) τ) H locs := by
  refine h.as (fun i hi => hi) (fun i hi => rfl) (exX_as (q := q) (ad := ad) (κ := κ) (κ' := (uJ κ 2 k v)) (τ := τ) (R := 100 + 4 * k) (e := .inr (6, (fsT ad κ k).set 6 (.long v))) (fin15 ⟨rfl, rfl, rfl, rfl, rfl, rfl, rfl, rfl, rfl, rfl, rfl, rfl, rfl, rfl, rfl⟩) (fun i h4 => by unfold exG; rw [if_neg h4, if_neg h4]; rfl) (by omega) (fun i h1 h2 => ?_))
  obtain ⟨k2, j, hj, rfl⟩ : ∃ k2 j, j < 4 ∧ i = 100 + 4 * k2 + j := ⟨(i - 100) / 4, (i - 100) % 4, by omega, by omega⟩
  rw [show (100 + 4 * k2 + j - 100) / 4 = k2 by omega, show (100 + 4 * k2 + j - 100) % 4 = j by omega]
  by_cases hkk : k2 = k
  · subst hkk
    match j, hj with
    | 0, _ => rw [show 100 + 4 * k2 + 0 = 100 + 4 * k2 by omega, va_up_self]; show (Sum.inr (6, [.int (sA κ 4 k2), .int (sA κ 5 k2), .ref (ad (101 + 4 * k2)), .ref (ad (102 + 4 * k2)), .ref (ad (103 + 4 * k2)), .int (sA κ 7 k2), .long (va_up (sJ κ 2) k2 v k2), va_rf ((rT (sA κ 8 k2)).map ad)]) : va_E) = _; rw [va_up_self]; rfl
    | 1, _ => rw [va_up_ne _ _ (by omega), exT_of (by omega) (by omega), show (100 + 4 * k2 + 1 - 100) / 4 = k2 by omega, show (100 + 4 * k2 + 1 - 100) % 4 = 1 by omega]; rfl
    | 2, _ => rw [va_up_ne _ _ (by omega), exT_of (by omega) (by omega), show (100 + 4 * k2 + 2 - 100) / 4 = k2 by omega, show (100 + 4 * k2 + 2 - 100) % 4 = 2 by omega]; rfl
    | 3, _ => rw [va_up_ne _ _ (by omega), exT_of (by omega) (by omega), show (100 + 4 * k2 + 3 - 100) / 4 = k2 by omega, show (100 + 4 * k2 + 3 - 100) % 4 = 3 by omega]; rfl
    | j + 4, hj => exact absurd hj (by omega)
  · rw [va_up_ne _ _ (by omega), exT_of (by omega) (by omega), show (100 + 4 * k2 + j - 100) / 4 = k2 by omega, show (100 + 4 * k2 + j - 100) % 4 = j by omega]
    match j, hj with
    | 0, _ => show (Sum.inr (6, [.int (sA κ 4 k2), .int (sA κ 5 k2), .ref (ad (101 + 4 * k2)), .ref (ad (102 + 4 * k2)), .ref (ad (103 + 4 * k2)), .int (sA κ 7 k2), .long (va_up (sJ κ 2) k v k2), va_rf ((rT (sA κ 8 k2)).map ad)]) : va_E) = _; rw [va_up_ne _ _ hkk]; rfl
    | 1, _ => rfl
    | 2, _ => rfl
    | 3, _ => rfl
    | j + 4, hj => exact absurd hj (by omega)
theorem xT_num {D : va_G} {q : Nat → ClassId} {A : Nat → Prop} {H0 : Heap} {s : State} {ad : Nat → Nat} {κ : KS} {τ : TAU} {H : Heap} {locs : List Loc} {k : Nat} (hk : k < 60) {v : Int64} {x : Nat} (hx : x < 12) (h : rX D q A H0 s (wU (wX q ad κ τ) (101 + 4 * k) (.inl (q 1, lnN κ k, .inr (.inl (va_up (tr 0 (sJ κ 1) k) x v))))) H locs) : rX D q A H0 s (wX q ad (uJ κ 1 (12 * k + x) v) τ) H locs := by
  refine h.as (fun i hi => hi) (fun i hi => rfl) (exX_as (q := q) (ad := ad) (κ := κ) (κ' := (uJ κ 1 (12 * k + x) v)) (τ := τ) (R := 101 + 4 * k) (e := .inl (q 1, lnN κ k, .inr (.inl (va_up (tr 0 (sJ κ 1) k) x v)))) (fin15 ⟨rfl, rfl, rfl, rfl, rfl, rfl, rfl, rfl, rfl, rfl, rfl, rfl, rfl, rfl, rfl⟩) (fun i h4 => by unfold exG; rw [if_neg h4, if_neg h4]; rfl) (by omega) (fun i h1 h2 => ?_))
  obtain ⟨k2, j, hj, rfl⟩ : ∃ k2 j, j < 4 ∧ i = 100 + 4 * k2 + j := ⟨(i - 100) / 4, (i - 100) % 4, by omega, by omega⟩
  rw [show (100 + 4 * k2 + j - 100) / 4 = k2 by omega, show (100 + 4 * k2 + j - 100) % 4 = j by omega]
  by_cases hkk : k2 = k
  · subst hkk
    match j, hj with
    | 0, _ => rw [va_up_ne _ _ (by omega), exT_of (by omega) (by omega), show (100 + 4 * k2 + 0 - 100) / 4 = k2 by omega, show (100 + 4 * k2 + 0 - 100) % 4 = 0 by omega]; rfl
    | 1, _ => rw [show 100 + 4 * k2 + 1 = 101 + 4 * k2 by omega, va_up_self]; show (Sum.inl (q 1, lnN κ k2, .inr (.inl (tr 0 (va_up (sJ κ 1) (12 * k2 + x) v) k2))) : va_E) = _; rw [tr_up _ _ _ _ _ hx, if_pos rfl]
    | 2, _ => rw [va_up_ne _ _ (by omega), exT_of (by omega) (by omega), show (100 + 4 * k2 + 2 - 100) / 4 = k2 by omega, show (100 + 4 * k2 + 2 - 100) % 4 = 2 by omega]; rfl
    | 3, _ => rw [va_up_ne _ _ (by omega), exT_of (by omega) (by omega), show (100 + 4 * k2 + 3 - 100) / 4 = k2 by omega, show (100 + 4 * k2 + 3 - 100) % 4 = 3 by omega]; rfl
    | j + 4, hj => exact absurd hj (by omega)
  · rw [va_up_ne _ _ (by omega), exT_of (by omega) (by omega), show (100 + 4 * k2 + j - 100) / 4 = k2 by omega, show (100 + 4 * k2 + j - 100) % 4 = j by omega]
    match j, hj with
    | 0, _ => rfl
    | 1, _ => show (Sum.inl (q 1, lnN κ k2, .inr (.inl (tr 0 (va_up (sJ κ 1) (12 * k + x) v) k2))) : va_E) = Sum.inl (q 1, lnN κ k2, .inr (.inl (tr 0 (sJ κ 1) k2))); rw [tr_up _ _ _ _ _ hx, if_neg hkk]
    | 2, _ => rfl
    | 3, _ => rfl
    | j + 4, hj => exact absurd hj (by omega)
theorem xT_pt {D : va_G} {q : Nat → ClassId} {A : Nat → Prop} {H0 : Heap} {s : State} {ad : Nat → Nat} {κ : KS} {τ : TAU} {H : Heap} {locs : List Loc} {k : Nat} (hk : k < 60) {v : UInt64} {x : Nat} (hx : x < 12) (h : rX D q A H0 s (wU (wX q ad κ τ) (102 + 4 * k) (.inl (q 3, lnP κ k, .inr (.inr (.inr (.inl (va_up (tr FP.dconst0 (sD κ 1) k) x v))))))) H locs) : rX D q A H0 s (wX q ad (uD κ 1 (12 * k + x) v) τ) H locs := by
  refine h.as (fun i hi => hi) (fun i hi => rfl) (exX_as (q := q) (ad := ad) (κ := κ) (κ' := (uD κ 1 (12 * k + x) v)) (τ := τ) (R := 102 + 4 * k) (e := .inl (q 3, lnP κ k, .inr (.inr (.inr (.inl (va_up (tr FP.dconst0 (sD κ 1) k) x v)))))) (fin15 ⟨rfl, rfl, rfl, rfl, rfl, rfl, rfl, rfl, rfl, rfl, rfl, rfl, rfl, rfl, rfl⟩) (fun i h4 => by unfold exG; rw [if_neg h4, if_neg h4]; rfl) (by omega) (fun i h1 h2 => ?_))
  obtain ⟨k2, j, hj, rfl⟩ : ∃ k2 j, j < 4 ∧ i = 100 + 4 * k2 + j := ⟨(i - 100) / 4, (i - 100) % 4, by omega, by omega⟩
  rw [show (100 + 4 * k2 + j - 100) / 4 = k2 by omega, show (100 + 4 * k2 + j - 100) % 4 = j by omega]
  by_cases hkk : k2 = k
  · subst hkk
    match j, hj with
    | 0, _ => rw [va_up_ne _ _ (by omega), exT_of (by omega) (by omega), show (100 + 4 * k2 + 0 - 100) / 4 = k2 by omega, show (100 + 4 * k2 + 0 - 100) % 4 = 0 by omega]; rfl
    | 1, _ => rw [va_up_ne _ _ (by omega), exT_of (by omega) (by omega), show (100 + 4 * k2 + 1 - 100) / 4 = k2 by omega, show (100 + 4 * k2 + 1 - 100) % 4 = 1 by omega]; rfl
    | 2, _ => rw [show 100 + 4 * k2 + 2 = 102 + 4 * k2 by omega, va_up_self]; show (Sum.inl (q 3, lnP κ k2, .inr (.inr (.inr (.inl (tr FP.dconst0 (va_up (sD κ 1) (12 * k2 + x) v) k2))))) : va_E) = _; rw [tr_up _ _ _ _ _ hx, if_pos rfl]
    | 3, _ => rw [va_up_ne _ _ (by omega), exT_of (by omega) (by omega), show (100 + 4 * k2 + 3 - 100) / 4 = k2 by omega, show (100 + 4 * k2 + 3 - 100) % 4 = 3 by omega]; rfl
    | j + 4, hj => exact absurd hj (by omega)
  · rw [va_up_ne _ _ (by omega), exT_of (by omega) (by omega), show (100 + 4 * k2 + j - 100) / 4 = k2 by omega, show (100 + 4 * k2 + j - 100) % 4 = j by omega]
    match j, hj with
    | 0, _ => rfl
    | 1, _ => rfl
    | 2, _ => show (Sum.inl (q 3, lnP κ k2, .inr (.inr (.inr (.inl (tr FP.dconst0 (va_up (sD κ 1) (12 * k + x) v) k2))))) : va_E) = Sum.inl (q 3, lnP κ k2, .inr (.inr (.inr (.inl (tr FP.dconst0 (sD κ 1) k2))))); rw [tr_up _ _ _ _ _ hx, if_neg hkk]
    | 3, _ => rfl
    | j + 4, hj => exact absurd hj (by omega)
