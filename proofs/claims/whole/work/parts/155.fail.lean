theorem hSeek_in (κ : KS) (p f : Int32) : ∀ (n k : Nat) (K : Int32), K = nI k → 0 ≤ hSeek κ p f n K → ∃ j, j < k + n ∧ hSeek κ p f n K = nI j
  | 0, _, _, _, h => absurd (show (0 : Int32) ≤ -1 from h) (by decide)
  | n + 1, k, K, hK, h => by
    by_cases hh : hit κ p f K
    · refine ⟨k, by omega, ?_⟩
      rw [← hK]
      exact if_pos hh
    · have e : hSeek κ p f (n + 1) K = hSeek κ p f n (K + 1) := if_neg hh
      rw [e] at h ⊢
      obtain ⟨j, hj, e2⟩ := hSeek_in κ p f n (k + 1) (K + 1) (by rw [hK]; exact nI_1 k) h
      exact ⟨j, by omega, e2⟩
theorem fSeek_in (κ : KS) (f : Int32) (hm : Nat) : ∀ (n : Nat) (fd : Int32), (0 ≤ fd → ∃ j, j < hm ∧ fd = nI j) → 0 ≤ (fSeek κ f hm n fd).1 → ∃ j, j < hm ∧ (fSeek κ f hm n fd).1 = nI j
  | 0, _, h0, h => h0 h
  | n + 1, fd, h0, h => by
    by_cases hf : 0 ≤ fd
    · have e : fSeek κ f hm (n + 1) fd = (fd, n + 1) := if_pos hf
      rw [e]
      exact h0 hf
    · have e : fSeek κ f hm (n + 1) fd = fSeek κ f hm n (hSeek κ (sA κ 9 n) f hm 0) := if_neg hf
      rw [e] at h ⊢
      exact fSeek_in κ f hm n _ (fun q => by
        obtain ⟨j, hj, e2⟩ := hSeek_in κ (sA κ 9 n) f hm 0 0 nI_0.symm q
        exact ⟨j, by omega, e2⟩) h
theorem fSeek_le (κ : KS) (f : Int32) (hm : Nat) : ∀ (n : Nat) (fd : Int32), (fSeek κ f hm n fd).2 ≤ n
  | 0, _ => Nat.le_refl 0
  | n + 1, fd => by
    by_cases hf : 0 ≤ fd
    · have e : fSeek κ f hm (n + 1) fd = (fd, n + 1) := if_pos hf
      rw [e]
      exact Nat.le_refl _
    · have e : fSeek κ f hm (n + 1) fd = fSeek κ f hm n (hSeek κ (sA κ 9 n) f hm 0) := if_neg hf
      rw [e]
      exact Nat.le_succ_of_le (fSeek_le κ f hm n _)
theorem fR_in {κ : KS} {f : Int32} {hm : Nat} (hh : sI κ 1 = nI hm) (h16 : hm ≤ 16) (h : 0 ≤ (fR κ f).1) : ∃ j, j < hm ∧ (fR κ f).1 = nI j := by
  have e : aN (sI κ 1) = hm := by rw [hh]; exact nI_clamp (by omega)
  unfold fR at h ⊢
  rw [e] at h ⊢
  exact fSeek_in κ f hm _ _ (fun q => by
    obtain ⟨j, hj, e2⟩ := hSeek_in κ (sI κ 4) f hm 0 0 nI_0.symm q
    exact ⟨j, by omega, e2⟩) h
def failU (κ : KS) (t : Nat → Int32) (op f : Int32) : Nat → Int32 := if 0 ≤ (fR κ f).1 then va_up (va_up (va_up t 4 f) 5 (if op = 68 ∧ 8 ≤ f then sA κ 3 (aN (t 0)) else 0)) 3 (sA κ 1 (aN ((4 * (fR κ f).1) + 3))) else t
abbrev oO (κ : KS) : Int32 := sA κ 0 (aN (4 * sI κ 4))
def p2 (κ : KS) (t : Nat → Int32) : KS × (Nat → Int32) := if oF κ = 0 then (act κ (t 4) (t 5) (oK κ) (oA κ) (oB κ) (oC κ), va_up (t1 κ t) 3 (nxt κ (oK κ) (oA κ) (oB κ) (sI κ 4 + 1))) else (failK κ (oF κ), failU κ (t1 κ t) (oO κ) (oF κ))
def pne (u : KS × (Nat → Int32)) : KS × (Nat → Int32) := o3 (p2 u.1 u.2)
def pnes : Nat → KS × (Nat → Int32) → KS × (Nat → Int32)
  | 0, u => u
  | n + 1, u => if sI u.1 3 = 1 then pnes n (pne u) else u
/-- what a step of the reference rests on -/
def RS (κ : KS) : Prop := WFm κ ∧ (∃ n, n ≤ 16 ∧ sI κ 1 = nI n) ∧ (∃ n, n ≤ 12 ∧ sI κ 6 = nI n) ∧ vp_in (sI κ 2) 61 ∧ ¬ sI κ 7 < 0 ∧ (∃ n, n < 150 ∧ sI κ 4 = nI n) ∧ oK κ < 74 ∧ oO κ = nI (oK κ) ∧ okStep (oK κ) (oA κ) (oB κ) (oC κ) ∧ (oF κ = 0 → nnOp κ (oK κ) (oA κ) (oB κ) (oC κ)) ∧ (oK κ = 68 → ¬ oF κ = 0)
theorem h600 {K : Int32} {k : Nat} (hK : K = nI k) (hk : k < 150) : vp_in (4 * K) 600 ∧ vp_in (4 * K + 1) 600 ∧ vp_in (4 * K + 2) 600 ∧ vp_in (4 * K + 3) 600 := by
  subst hK
  rw [show (4 : Int32) = nI 4 from rfl, show (1 : Int32) = nI 1 from rfl, show (2 : Int32) = nI 2 from rfl, show (3 : Int32) = nI 3 from rfl, pk_mul, nI_add, nI_add, nI_add]
  exact ⟨vp_in_nI (by omega) (by decide), vp_in_nI (by omega) (by decide), vp_in_nI (by omega) (by decide), vp_in_nI (by omega) (by decide)⟩
/-- the state behind i steps -/
def pit (u : KS × (Nat → Int32)) : Nat → KS × (Nat → Int32)
  | 0 => u
  | i + 1 => if sI (pit u i).1 3 = 1 then pne (pit u i) else pit u i
theorem pit_stop {u : KS × (Nat → Int32)} {i : Nat} (h : ¬ sI (pit u i).1 3 = 1) : ∀ j, pit u (i + j) = pit u i
  | 0 => rfl
  | j + 1 => by
    have e := pit_stop h j
    show (if sI (pit u (i + j)).1 3 = 1 then pne (pit u (i + j)) else pit u (i + j)) = _
    rw [e, if_neg h]
theorem nI_100 {x : Int32} (h : pIn x 0 100) : ∃ n : Nat, n ≤ 100 ∧ x = nI n := by
  obtain ⟨h1, h2⟩ := h
  exact nI_of2 (M := 100) (n := 100) (by decide) h1 (Int32.not_lt.mp h2)
