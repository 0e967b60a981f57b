theorem exT0_cg {q : Nat → ClassId} {ad : Nat → Nat} {κ κ' : KS} {k : Nat} (h4 : sA κ' 4 = sA κ 4) (h5 : sA κ' 5 = sA κ 5) (h7 : sA κ' 7 = sA κ 7) (h8 : sA κ' 8 = sA κ 8) (h2 : sJ κ' 2 = sJ κ 2) : exT q ad κ' k 0 = exT q ad κ k 0 := by
  show (Sum.inr (6, [.int (sA κ' 4 k), .int (sA κ' 5 k), .ref (ad (101 + 4 * k)), .ref (ad (102 + 4 * k)), .ref (ad (103 + 4 * k)), .int (sA κ' 7 k), .long (sJ κ' 2 k), va_rf ((rT (sA κ' 8 k)).map ad)]) : va_E) = _
  rw [h4, h5, h7, h8, h2]
  rfl
theorem exT1_cg {q : Nat → ClassId} {ad : Nat → Nat} {κ κ' : KS} {k : Nat} (h4 : sA κ' 4 = sA κ 4) (h5 : sA κ' 5 = sA κ 5) (h1 : sJ κ' 1 = sJ κ 1) : exT q ad κ' k 1 = exT q ad κ k 1 := by
  show (Sum.inl (q 1, (if sA κ' 4 k ≤ 5 then aN (sA κ' 5 k) else 0), .inr (.inl (tr 0 (sJ κ' 1) k))) : va_E) = _
  rw [h4, h5, h1]
  rfl
theorem exT2_cg {q : Nat → ClassId} {ad : Nat → Nat} {κ κ' : KS} {k : Nat} (h4 : sA κ' 4 = sA κ 4) (h5 : sA κ' 5 = sA κ 5) (h1 : sD κ' 1 = sD κ 1) : exT q ad κ' k 2 = exT q ad κ k 2 := by
  show (Sum.inl (q 3, (if sA κ' 4 k = 6 ∨ sA κ' 4 k = 7 then aN (sA κ' 5 k) else 0), .inr (.inr (.inr (.inl (tr FP.dconst0 (sD κ' 1) k))))) : va_E) = _
  rw [h4, h5, h1]
  rfl
theorem exT3_cg {q : Nat → ClassId} {ad : Nat → Nat} {κ κ' : KS} {k : Nat} (h4 : sA κ' 4 = sA κ 4) (h5 : sA κ' 5 = sA κ 5) (h6 : sA κ' 6 = sA κ 6) : exT q ad κ' k 3 = exT q ad κ k 3 := by
  show (Sum.inl (q 6, (if 8 ≤ sA κ' 4 k ∧ sA κ' 4 k ≤ 10 then aN (sA κ' 5 k) else 0), .inr (.inr (.inr (.inr (fun j => (rT (tr 0 (sA κ' 6) k j)).map ad))))) : va_E) = _
  rw [h4, h5, h6]
  rfl
theorem xT_link {D : va_G} {q : Nat → ClassId} {A : Nat → Prop} {H0 : Heap} {s : State} {ad : Nat → Nat} {κ : KS} {τ : TAU} {H : Heap} {locs : List Loc} {k : Nat} (hk : k < 60) {v : Int32} (h : rX D q A H0 s (wU (wX q ad κ τ) (100 + 4 * k) (.inr (6, (fsT ad κ k).set 7 (va_rf ((rT v).map ad))))) H locs) : rX D q A H0 s (wX q ad (uA κ 8 k v) τ) H locs := by
  refine h.as (fun i hi => hi) (fun i hi => rfl) (exX_as (q := q) (ad := ad) (κ := κ) (κ' := (uA κ 8 k v)) (τ := τ) (R := 100 + 4 * k) (e := .inr (6, (fsT ad κ k).set 7 (va_rf ((rT v).map ad)))) (fin15 ⟨rfl, rfl, rfl, rfl, rfl, rfl, rfl, rfl, rfl, rfl, rfl, rfl, rfl, rfl, rfl⟩) (fun i h4 => by unfold exG; rw [if_neg h4, if_neg h4]; rfl) (by omega) (fun i h1 h2 => ?_))
  obtain ⟨k2, j, hj, rfl⟩ : ∃ k2 j, j < 4 ∧ i = 100 + 4 * k2 + j := ⟨(i - 100) / 4, (i - 100) % 4, by omega, by omega⟩
  rw [show (100 + 4 * k2 + j - 100) / 4 = k2 by omega, show (100 + 4 * k2 + j - 100) % 4 = j by omega]
  by_cases hkk : k2 = k
  · subst hkk
    match j, hj with
    | 0, _ => rw [show 100 + 4 * k2 + 0 = 100 + 4 * k2 by omega, va_up_self]; show (Sum.inr (6, [.int (sA κ 4 k2), .int (sA κ 5 k2), .ref (ad (101 + 4 * k2)), .ref (ad (102 + 4 * k2)), .ref (ad (103 + 4 * k2)), .int (sA κ 7 k2), .long (sJ κ 2 k2), va_rf ((rT (sA (uA κ 8 k2 v) 8 k2)).map ad)]) : va_E) = _; rw [uA_same, va_up_self]; rfl
    | 1, _ => rw [va_up_ne _ _ (by omega), exT_of (by omega) (by omega), show (100 + 4 * k2 + 1 - 100) / 4 = k2 by omega, show (100 + 4 * k2 + 1 - 100) % 4 = 1 by omega]; exact exT1_cg (uA_ne _ _ _ (by decide)) (uA_ne _ _ _ (by decide)) rfl
    | 2, _ => rw [va_up_ne _ _ (by omega), exT_of (by omega) (by omega), show (100 + 4 * k2 + 2 - 100) / 4 = k2 by omega, show (100 + 4 * k2 + 2 - 100) % 4 = 2 by omega]; exact exT2_cg (uA_ne _ _ _ (by decide)) (uA_ne _ _ _ (by decide)) rfl
    | 3, _ => rw [va_up_ne _ _ (by omega), exT_of (by omega) (by omega), show (100 + 4 * k2 + 3 - 100) / 4 = k2 by omega, show (100 + 4 * k2 + 3 - 100) % 4 = 3 by omega]; exact exT3_cg (uA_ne _ _ _ (by decide)) (uA_ne _ _ _ (by decide)) (uA_ne _ _ _ (by decide))
    | j + 4, hj => exact absurd hj (by omega)
  · rw [va_up_ne _ _ (by omega), exT_of (by omega) (by omega), show (100 + 4 * k2 + j - 100) / 4 = k2 by omega, show (100 + 4 * k2 + j - 100) % 4 = j by omega]
    match j, hj with
    | 0, _ => show (Sum.inr (6, [.int (sA κ 4 k2), .int (sA κ 5 k2), .ref (ad (101 + 4 * k2)), .ref (ad (102 + 4 * k2)), .ref (ad (103 + 4 * k2)), .int (sA κ 7 k2), .long (sJ κ 2 k2), va_rf ((rT (sA (uA κ 8 k v) 8 k2)).map ad)]) : va_E) = _; rw [uA_same, va_up_ne _ _ hkk]; rfl
    | 1, _ => exact exT1_cg (uA_ne _ _ _ (by decide)) (uA_ne _ _ _ (by decide)) rfl
    | 2, _ => exact exT2_cg (uA_ne _ _ _ (by decide)) (uA_ne _ _ _ (by decide)) rfl
    | 3, _ => exact exT3_cg (uA_ne _ _ _ (by decide)) (uA_ne _ _ _ (by decide)) (uA_ne _ _ _ (by decide))
    | j + 4, hj => exact absurd hj (by omega)
theorem xT_mem {D : va_G} {q : Nat → ClassId} {A : Nat → Prop} {H0 : Heap} {s : State} {ad : Nat → Nat} {κ : KS} {τ : TAU} {H : Heap} {locs : List Loc} {k : Nat} (hk : k < 60) {v : Int32} {x : Nat} (hx : x < 12) {y : Option Nat} (hy : (rT v).map ad = y) (h : rX D q A H0 s (wU (wX q ad κ τ) (103 + 4 * k) (.inl (q 6, lnM κ k, .inr (.inr (.inr (.inr (va_up (fun j => (rT (tr 0 (sA κ 6) k j)).map ad) x y))))))) H locs) : rX D q A H0 s (wX q ad (uA κ 6 (12 * k + x) v) τ) H locs := by
  refine h.as (fun i hi => hi) (fun i hi => rfl) (exX_as (q := q) (ad := ad) (κ := κ) (κ' := (uA κ 6 (12 * k + x) v)) (τ := τ) (R := 103 + 4 * k) (e := .inl (q 6, lnM κ k, .inr (.inr (.inr (.inr (va_up (fun j => (rT (tr 0 (sA κ 6) k j)).map ad) x y)))))) (fin15 ⟨rfl, rfl, rfl, rfl, rfl, rfl, rfl, rfl, rfl, rfl, rfl, rfl, rfl, rfl, rfl⟩) (fun i h4 => by unfold exG; rw [if_neg h4, if_neg h4]; rfl) (by omega) (fun i h1 h2 => ?_))
  obtain ⟨k2, j, hj, rfl⟩ : ∃ k2 j, j < 4 ∧ i = 100 + 4 * k2 + j := ⟨(i - 100) / 4, (i - 100) % 4, by omega, by omega⟩
  rw [show (100 + 4 * k2 + j - 100) / 4 = k2 by omega, show (100 + 4 * k2 + j - 100) % 4 = j by omega]
  by_cases hkk : k2 = k
  · subst hkk
    match j, hj with
    | 0, _ => rw [va_up_ne _ _ (by omega), exT_of (by omega) (by omega), show (100 + 4 * k2 + 0 - 100) / 4 = k2 by omega, show (100 + 4 * k2 + 0 - 100) % 4 = 0 by omega]; exact exT0_cg (uA_ne _ _ _ (by decide)) (uA_ne _ _ _ (by decide)) (uA_ne _ _ _ (by decide)) (uA_ne _ _ _ (by decide)) rfl
    | 1, _ => rw [va_up_ne _ _ (by omega), exT_of (by omega) (by omega), show (100 + 4 * k2 + 1 - 100) / 4 = k2 by omega, show (100 + 4 * k2 + 1 - 100) % 4 = 1 by omega]; exact exT1_cg (uA_ne _ _ _ (by decide)) (uA_ne _ _ _ (by decide)) rfl
    | 2, _ => rw [va_up_ne _ _ (by omega), exT_of (by omega) (by omega), show (100 + 4 * k2 + 2 - 100) / 4 = k2 by omega, show (100 + 4 * k2 + 2 - 100) % 4 = 2 by omega]; exact exT2_cg (uA_ne _ _ _ (by decide)) (uA_ne _ _ _ (by decide)) rfl
    | 3, _ => rw [show 100 + 4 * k2 + 3 = 103 + 4 * k2 by omega, va_up_self]; show (Sum.inl (q 6, lnM κ k2, .inr (.inr (.inr (.inr (fun j => (rT (tr 0 (sA (uA κ 6 (12 * k2 + x) v) 6) k2 j)).map ad))))) : va_E) = _; rw [uA_same, tr_up _ _ _ _ _ hx, if_pos rfl, rT_up, hy]
    | j + 4, hj => exact absurd hj (by omega)
  · rw [va_up_ne _ _ (by omega), exT_of (by omega) (by omega), show (100 + 4 * k2 + j - 100) / 4 = k2 by omega, show (100 + 4 * k2 + j - 100) % 4 = j by omega]
    match j, hj with
    | 0, _ => exact exT0_cg (uA_ne _ _ _ (by decide)) (uA_ne _ _ _ (by decide)) (uA_ne _ _ _ (by decide)) (uA_ne _ _ _ (by decide)) rfl
    | 1, _ => exact exT1_cg (uA_ne _ _ _ (by decide)) (uA_ne _ _ _ (by decide)) rfl
    | 2, _ => exact exT2_cg (uA_ne _ _ _ (by decide)) (uA_ne _ _ _ (by decide)) rfl
    | 3, _ => show (Sum.inl (q 6, lnM κ k2, .inr (.inr (.inr (.inr (fun j => (rT (tr 0 (sA (uA κ 6 (12 * k + x) v) 6) k2 j)).map ad))))) : va_E) = Sum.inl (q 6, lnM κ k2, .inr (.inr (.inr (.inr (fun j => (rT (tr 0 (sA κ 6) k2 j)).map ad))))); rw [uA_same, tr_up _ _ _ _ _ hx, if_neg hkk]
    | j + 4, hj => exact absurd hj (by omega)
