def sm (N : Nat) (x : Int32) : Prop := ∃ j, j < N ∧ x = nI j
theorem sm_ite {N : Nat} {P : Prop} [Decidable P] {x y : Int32} (hx : sm N x) (hy : sm N y) : sm N (if P then x else y) := by
  by_cases h : P
  · rw [if_pos h]; exact hx
  · rw [if_neg h]; exact hy
theorem sm_0 : sm 8 0 := ⟨0, by decide, rfl⟩
theorem sm_1 : sm 8 1 := ⟨1, by decide, rfl⟩
theorem sm_2 : sm 8 2 := ⟨2, by decide, rfl⟩
theorem sm_3 : sm 8 3 := ⟨3, by decide, rfl⟩
theorem sm_4 : sm 8 4 := ⟨4, by decide, rfl⟩
theorem sm_5 : sm 8 5 := ⟨5, by decide, rfl⟩
theorem sm_6 : sm 8 6 := ⟨6, by decide, rfl⟩
theorem sm_7 : sm 8 7 := ⟨7, by decide, rfl⟩
theorem why_sm (κ : KS) {k : Nat} (hk : k < 74) (h68 : k ≠ 68) (a b c : Int32) : sm 8 (why κ k a b c) := by
  match k, hk, h68 with
  | 0, _, _ => exact sm_0
  | 1, _, _ => exact sm_0
  | 2, _, _ => exact sm_0
  | 3, _, _ => exact sm_0
  | 4, _, _ => exact sm_0
  | 5, _, _ => exact sm_0
  | 6, _, _ => exact sm_0
  | 7, _, _ => exact (sm_ite sm_6 sm_0)
  | 8, _, _ => exact (sm_ite sm_6 sm_0)
  | 9, _, _ => exact sm_0
  | 10, _, _ => exact sm_0
  | 11, _, _ => exact (sm_ite sm_6 sm_0)
  | 12, _, _ => exact (sm_ite sm_6 sm_0)
  | 13, _, _ => exact sm_0
  | 14, _, _ => exact sm_0
  | 15, _, _ => exact sm_0
  | 16, _, _ => exact sm_0
  | 17, _, _ => exact sm_0
  | 18, _, _ => exact sm_0
  | 19, _, _ => exact sm_0
  | 20, _, _ => exact sm_0
  | 21, _, _ => exact sm_0
  | 22, _, _ => exact sm_0
  | 23, _, _ => exact (sm_ite sm_6 sm_0)
  | 24, _, _ => exact (sm_ite sm_6 sm_0)
  | 25, _, _ => exact sm_0
  | 26, _, _ => exact sm_0
  | 27, _, _ => exact sm_0
  | 28, _, _ => exact sm_0
  | 29, _, _ => exact (sm_ite sm_7 sm_0)
  | 30, _, _ => exact sm_0
  | 31, _, _ => exact (sm_ite (sm_ite (sm_ite sm_7 sm_0) sm_3) sm_7)
  | 32, _, _ => exact (sm_ite (sm_ite (sm_ite (sm_ite (sm_ite sm_0 sm_7) sm_3) sm_3) sm_7) sm_7)
  | 33, _, _ => exact (sm_ite sm_7 sm_0)
  | 34, _, _ => exact sm_0
  | 35, _, _ => exact sm_0
  | 36, _, _ => exact sm_0
  | 37, _, _ => exact sm_0
  | 38, _, _ => exact (sm_ite sm_1 (sm_ite sm_0 sm_4))
  | 39, _, _ => exact (sm_ite sm_4 (sm_ite sm_1 (sm_ite sm_0 sm_2)))
  | 40, _, _ => exact (sm_ite sm_4 (sm_ite sm_1 (sm_ite sm_0 sm_2)))
  | 41, _, _ => exact (sm_ite sm_4 (sm_ite sm_1 (sm_ite sm_0 sm_2)))
  | 42, _, _ => exact (sm_ite sm_4 (sm_ite sm_1 (sm_ite sm_0 sm_2)))
  | 43, _, _ => exact (sm_ite sm_4 (sm_ite sm_1 (sm_ite sm_0 sm_2)))
  | 44, _, _ => exact (sm_ite sm_4 (sm_ite sm_1 (sm_ite sm_0 sm_2)))
  | 45, _, _ => exact (sm_ite sm_4 (sm_ite sm_1 (sm_ite sm_0 sm_2)))
  | 46, _, _ => exact (sm_ite sm_4 (sm_ite sm_1 (sm_ite sm_0 sm_2)))
  | 47, _, _ => exact (sm_ite sm_4 (sm_ite sm_1 (sm_ite sm_0 sm_2)))
  | 48, _, _ => exact (sm_ite sm_4 (sm_ite sm_1 (sm_ite sm_0 sm_2)))
  | 49, _, _ => exact (sm_ite sm_4 (sm_ite sm_1 (sm_ite sm_0 sm_2)))
  | 50, _, _ => exact (sm_ite sm_4 (sm_ite sm_1 (sm_ite sm_0 sm_2)))
  | 51, _, _ => exact (sm_ite sm_4 (sm_ite sm_1 (sm_ite sm_0 sm_2)))
  | 52, _, _ => exact (sm_ite sm_4 (sm_ite sm_1 (sm_ite sm_0 sm_2)))
  | 53, _, _ => exact (sm_ite sm_4 (sm_ite sm_1 (sm_ite sm_0 sm_2)))
  | 54, _, _ => exact (sm_ite sm_4 (sm_ite sm_1 (sm_ite sm_0 sm_2)))
  | 55, _, _ => exact (sm_ite sm_4 (sm_ite sm_1 (sm_ite sm_0 sm_2)))
  | 56, _, _ => exact (sm_ite sm_4 (sm_ite sm_1 (sm_ite sm_0 sm_2)))
  | 57, _, _ => exact (sm_ite sm_4 (sm_ite sm_4 (sm_ite sm_1 (sm_ite (sm_ite sm_0 (sm_ite (sm_ite sm_5 sm_0) sm_0)) sm_2))))
  | 58, _, _ => exact (sm_ite sm_4 (sm_ite sm_4 (sm_ite sm_1 (sm_ite sm_0 sm_2))))
  | 59, _, _ => exact (sm_ite sm_4 (sm_ite sm_1 sm_0))
  | 60, _, _ => exact (sm_ite sm_4 (sm_ite sm_1 sm_0))
  | 61, _, _ => exact (sm_ite sm_4 (sm_ite sm_1 sm_0))
  | 62, _, _ => exact (sm_ite sm_4 (sm_ite sm_1 sm_0))
  | 63, _, _ => exact (sm_ite sm_4 (sm_ite sm_1 sm_0))
  | 64, _, _ => exact (sm_ite sm_4 (sm_ite sm_4 (sm_ite sm_1 sm_0)))
  | 65, _, _ => exact (sm_ite sm_4 (sm_ite sm_1 sm_0))
  | 66, _, _ => exact (sm_ite sm_4 (sm_ite sm_1 sm_0))
  | 67, _, _ => exact (sm_ite sm_4 (sm_ite sm_7 sm_0))
  | 68, _, h => exact absurd rfl h
  | 69, _, _ => exact sm_0
  | 70, _, _ => exact (sm_ite sm_1 (sm_ite sm_4 sm_0))
  | 71, _, _ => exact (sm_ite sm_1 (sm_ite sm_4 sm_0))
  | 72, _, _ => exact sm_0
  | 73, _, _ => exact sm_0
  | n + 74, q, _ => exact absurd q (by omega)
theorem why68 {B M : Nat} {κ : KS} {th : Int32} (h : INV B M κ th) (a b c : Int32) : ∃ j, j < 31 ∧ 0 < j ∧ why κ 68 a b c = nI j := by
  show ∃ j, j < 31 ∧ 0 < j ∧ (if (sA κ 3 (aN a)) = 0 then 1 else (if pWrong κ (sA κ 3 (aN a)) 15 then 4 else sA κ 7 (aN ((sA κ 3 (aN a)) - 1)))) = nI j
  by_cases h0 : sA κ 3 (aN a) = 0
  · rw [if_pos h0]; exact ⟨1, by decide, by decide, rfl⟩
  · rw [if_neg h0]
    by_cases hp : pWrong κ (sA κ 3 (aN a)) 15
    · rw [if_pos hp]; exact ⟨4, by decide, by decide, rfl⟩
    · rw [if_neg hp]
      have h15 : sA κ 4 (aN (sA κ 3 (aN a) - 1)) = 15 := by
        have q : pOf (sA κ 4 (aN (sA κ 3 (aN a) - 1))) 15 := Classical.not_not.mp (fun q => hp ⟨h0, q⟩)
        rcases q with q | ⟨q, _⟩ | ⟨q, _⟩ | ⟨q, _⟩ | ⟨q, _⟩
        · exact q
        all_goals exact absurd q (by decide)
      obtain ⟨j, h8, h31, e⟩ := (h.i4 _ (h.reg h0).2).2.2.2.2.2.1 h15
      exact ⟨j, h31, by omega, e⟩
theorem why_j {B M : Nat} {κ : KS} {th : Int32} (h : INV B M κ th) {k : Nat} (hk : k < 74) (a b c : Int32) : ∃ j, j < 31 ∧ why κ k a b c = nI j := by
  by_cases e : k = 68
  · subst e
    obtain ⟨j, h1, _, h2⟩ := why68 h a b c
    exact ⟨j, h1, h2⟩
  · obtain ⟨j, h1, h2⟩ := why_sm κ hk e a b c
    exact ⟨j, by omega, h2⟩
theorem why_8 {κ : KS} {k : Nat} (hk : k < 74) {a b c : Int32} (h8 : 8 ≤ why κ k a b c) : k = 68 := by
  by_cases e : k = 68
  · exact e
  · obtain ⟨j, h1, h2⟩ := why_sm κ hk e a b c
    rw [h2, show (8 : Int32) = nI 8 from rfl] at h8
    exact absurd ((nI_leI (by decide) (by omega)).mp h8) (by omega)
/-- the step at the run's place -/
theorem oFacts {B M : Nat} {κ : KS} {th : Int32} (h : INV B M κ th) (h3 : sI κ 3 = 1) : ∃ p mn, p < mn ∧ mn ≤ 150 ∧ sI κ 0 = nI mn ∧ sI κ 4 = nI p ∧ oK κ < 74 ∧ oO κ = nI (oK κ) ∧ okStep (oK κ) (oA κ) (oB κ) (oC κ) ∧ sA κ 0 (4 * p) = oO κ ∧ sA κ 0 (4 * p + 1) = oA κ ∧ sA κ 0 (4 * p + 2) = oB κ ∧ sA κ 0 (4 * p + 3) = oC κ := by
  obtain ⟨mn, hmn, h0, hS⟩ := h.i0
  obtain ⟨p, hp, hpl⟩ := h.i9 h3
  rw [h0, show aN (nI mn) = mn from nI_clamp (by omega)] at hpl
  obtain ⟨j, hj, e0, hok⟩ := hS p hpl
  have a0 : aN (4 * sI κ 4) = 4 * p := by rw [hp, show (4 : Int32) = nI 4 from rfl, pk_mul]; exact nI_clamp (by omega)
  have a1 : aN (4 * sI κ 4 + 1) = 4 * p + 1 := by rw [hp, show (4 : Int32) = nI 4 from rfl, pk_mul, nI_1]; exact nI_clamp (by omega)
  have a2 : aN (4 * sI κ 4 + 2) = 4 * p + 2 := by rw [hp, show (4 : Int32) = nI 4 from rfl, pk_mul, show (2 : Int32) = nI 2 from rfl, nI_add]; exact nI_clamp (by omega)
  have a3 : aN (4 * sI κ 4 + 3) = 4 * p + 3 := by rw [hp, show (4 : Int32) = nI 4 from rfl, pk_mul, show (3 : Int32) = nI 3 from rfl, nI_add]; exact nI_clamp (by omega)
  have hO : oO κ = nI j := by show sA κ 0 (aN (4 * sI κ 4)) = _; rw [a0]; exact e0
  have hK : oK κ = j := by show aN (sA κ 0 (aN (4 * sI κ 4))) = _; rw [a0, e0]; exact nI_clamp (by omega)
  have hA : oA κ = sA κ 0 (4 * p + 1) := by show sA κ 0 (aN (4 * sI κ 4 + 1)) = _; rw [a1]
  have hB : oB κ = sA κ 0 (4 * p + 2) := by show sA κ 0 (aN (4 * sI κ 4 + 2)) = _; rw [a2]
  have hCc : oC κ = sA κ 0 (4 * p + 3) := by show sA κ 0 (aN (4 * sI κ 4 + 3)) = _; rw [a3]
  refine ⟨p, mn, hpl, hmn, h0, hp, by rw [hK]; exact hj, by rw [hK]; exact hO, ?_, by rw [hO]; exact e0, hA.symm, hB.symm, hCc.symm⟩
  rw [hK, hA, hB, hCc]
  exact hok
theorem INV.rs {B M : Nat} {κ : KS} {th : Int32} (h : INV B M κ th) (h3 : sI κ 3 = 1) (hB : B < 2 ^ 31) : RS κ := by
  obtain ⟨p, mn, hp, hmn, h0, h4, hk, hO, hok, _⟩ := oFacts h h3
  obtain ⟨hn, h16, h1, _⟩ := h.i1
  refine ⟨h.wfm, ⟨hn, h16, h1⟩, h.i6, h.m61, h.t7 hB, ⟨p, by omega, h4⟩, hk, hO, hok, fun hF => ?_, fun e hF => ?_⟩
  · by_cases e3 : oK κ = 23
    · have hF2 : why κ 23 (oA κ) (oB κ) (oC κ) = 0 := by rw [← e3]; exact hF
      rw [e3]
      exact ffB_nn (frem_B (h.i5.1 _) (h.i5.1 _) (y6 hF2).1)
    · by_cases e4 : oK κ = 24
      · have hF2 : why κ 24 (oA κ) (oB κ) (oC κ) = 0 := by rw [← e4]; exact hF
        rw [e4]
        exact fdB_nn (drem_B (h.i5.2 _ _) (h.i5.2 _ _) (y6 hF2).1)
      · exact nn_FB h.i5 _ _ _ _ e3 e4
  · obtain ⟨j, hj, hj0, e2⟩ := why68 h (oA κ) (oB κ) (oC κ)
    have hF2 : why κ 68 (oA κ) (oB κ) (oC κ) = 0 := by rw [← e]; exact hF
    rw [e2] at hF2
    have : aN (nI j) = aN 0 := by rw [hF2]
    rw [show aN (nI j) = j from nI_clamp (by omega)] at this
    exact absurd this (by show ¬ j = 0; omega)
theorem nI_ofin {x : Int32} {n : Nat} (h : vp_in x n) (hn : n < 2 ^ 31) : ∃ j, j < n ∧ x = nI j := vp_in_of h hn
theorem nxt_in {B M : Nat} {κ : KS} {th : Int32} (h : INV B M κ th) (h3 : sI κ 3 = 1) : ∃ j, j ≤ 200 ∧ nxt κ (oK κ) (oA κ) (oB κ) (sI κ 4 + 1) = nI j := by
  obtain ⟨p, mn, hp, hmn, h0, h4, hk, hO, hok, _⟩ := oFacts h h3
  have hd : ∃ j, j ≤ 200 ∧ sI κ 4 + 1 = nI j := ⟨p + 1, by omega, by rw [h4, nI_1]⟩
  by_cases e1 : oK κ = 27
  · rw [e1] at hok ⊢
    obtain ⟨j, hj, e⟩ := vp_in_of (show vp_in (oA κ) 200 from hok.1) (by decide)
    exact ⟨j, by omega, e⟩
  · by_cases e2 : oK κ = 28
    · rw [e2] at hok ⊢
      obtain ⟨j, hj, e⟩ := vp_in_of (show vp_in (oB κ) 200 from hok.2.1) (by decide)
      show ∃ j, j ≤ 200 ∧ (if wd κ (oA κ) = 0 then oB κ else sI κ 4 + 1) = nI j
      by_cases hz : wd κ (oA κ) = 0
      · rw [if_pos hz]; exact ⟨j, by omega, e⟩
      · rw [if_neg hz]; exact hd
    · by_cases e3 : oK κ = 29
      · rw [e3] at hok ⊢
        obtain ⟨j, hj, e⟩ := vp_in_of (show vp_in (oA κ) 200 from hok.1) (by decide)
        exact ⟨j, by omega, e⟩
      · by_cases e4 : oK κ = 30
        · rw [e4]
          show ∃ j, j ≤ 200 ∧ (if sI κ 6 = 0 then sI κ 4 + 1 else sA κ 9 (aN (sI κ 6 - 1)) + 1) = nI j
          by_cases hz : sI κ 6 = 0
          · rw [if_pos hz]; exact hd
          · rw [if_neg hz]
            obtain ⟨j, hj, e⟩ := vp_in_of (h.i7 (aN (sI κ 6 - 1))) (by decide)
            exact ⟨j + 1, by omega, by rw [e, nI_1]⟩
        · have e : nxt κ (oK κ) (oA κ) (oB κ) (sI κ 4 + 1) = sI κ 4 + 1 := by
            unfold nxt
            split <;> first | rfl | (exfalso; simp_all)
          rw [e]; exact hd
