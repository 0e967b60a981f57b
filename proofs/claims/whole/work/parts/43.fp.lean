theorem fq_lg {n : Nat} (h : n ≠ 0) : ∀ k, Nat.log2 (n * 2 ^ k) = Nat.log2 n + k
  | 0 => by simp
  | k + 1 => by
    have h2 : n * 2 ^ k ≠ 0 := Nat.mul_ne_zero h (Nat.pos_iff_ne_zero.mp (Nat.two_pow_pos k))
    rw [Nat.pow_succ, ← Nat.mul_assoc, Nat.mul_comm (n * 2 ^ k) 2, Nat.log2_two_mul h2, fq_lg h k]
    omega
theorem fq_lead {A : Nat} (hA : A ≠ 0) (b : Nat) : FP.Core.leading A (2 ^ b) = (A.log2 : Int) - b := by
  have h1 := Nat.log2_self_le hA
  unfold FP.Core.leading
  simp only [Nat.log2_two_pow]
  rw [if_pos]
  generalize A.log2 = L at h1
  by_cases hb : b ≤ L
  · rw [show ((L : Int) - b).toNat = L - b by omega, show (-((L : Int) - b)).toNat = 0 by omega, ← Nat.pow_add, show b + (L - b) = L by omega]
    simpa using h1
  · rw [show ((L : Int) - b).toNat = 0 by omega, show (-((L : Int) - b)).toNat = b - L by omega]
    have := Nat.mul_le_mul_right (2 ^ (b - L)) h1
    rw [← Nat.pow_add, show L + (b - L) = b by omega] at this
    simpa using this
theorem fq_near {c D : Nat} (hD : 0 < D) : FP.Core.nearest (c * D) D = c := by
  unfold FP.Core.nearest
  rw [Nat.mul_mod_left, if_pos (by omega), Nat.mul_div_cancel _ hD]
theorem fq_near_le {N D M : Nat} (hD : 0 < D) (h : N ≤ M * D) : FP.Core.nearest N D ≤ M := by
  have h1 := Nat.div_add_mod N D
  have h2 := Nat.mod_lt N hD
  have h3 : N / D ≤ M := by
    have := Nat.div_le_div_right (c := D) h
    rwa [Nat.mul_div_cancel _ hD] at this
  unfold FP.Core.nearest
  by_cases e : N / D = M
  · have : N % D = 0 := by
      rw [e, Nat.mul_comm] at h1
      omega
    rw [this, if_pos (by omega)]
    exact h3
  · split
    · exact h3
    · split
      · omega
      · have := Nat.mod_lt (N / D) (show 0 < 2 by decide)
        omega
theorem fq_near_ge {N D M : Nat} (hD : 0 < D) (h : M * D ≤ N) : M ≤ FP.Core.nearest N D := by
  have h3 : M ≤ N / D := (Nat.le_div_iff_mul_le hD).mpr h
  unfold FP.Core.nearest
  split
  · exact h3
  · split <;> omega
theorem fq_tails (f : FP.Core.Fmt) : f.tails = 2 ^ (f.p - 1) := rfl
/-- what is a number of the format is not changed -/
theorem fq_exact {f : FP.Core.Fmt} (hp : 1 ≤ f.p) {s : Bool} {A b c : Nat} {e q : Int} (hf : FP.Core.fits f (.fin s c q)) (h : A * 2 ^ (e - q).toNat = c * 2 ^ b * 2 ^ (q - e).toNat) : FP.Core.roundRatio f s A (2 ^ b) e = .fin s c q := by
  obtain ⟨hc, h1, h2, h3⟩ := hf
  have p1 := Nat.two_pow_pos (e - q).toNat
  have p2 := Nat.two_pow_pos (q - e).toNat
  have p3 := Nat.two_pow_pos b
  unfold FP.Core.roundRatio
  by_cases hA : A = 0
  · rw [if_pos hA]
    have hc0 : c = 0 := by
      rw [hA, Nat.zero_mul] at h
      have := h.symm
      rw [Nat.mul_eq_zero, Nat.mul_eq_zero] at this
      omega
    have ht : 0 < f.tails := Nat.two_pow_pos _
    rw [hc0, show q = f.qmin by omega]
  · rw [if_neg hA]
    have hc0 : c ≠ 0 := by
      intro hc0
      rw [hc0, Nat.zero_mul, Nat.zero_mul, Nat.mul_eq_zero] at h
      omega
    have hl : A.log2 + (e - q).toNat = c.log2 + b + (q - e).toNat := by
      rw [← fq_lg hA, h, fq_lg (Nat.mul_ne_zero hc0 (Nat.pos_iff_ne_zero.mp p3)), fq_lg hc0]
    have hL : c.log2 < f.p := (Nat.log2_lt hc0).mpr hc
    have hq : FP.Core.quantum f A (2 ^ b) e = q := by
      unfold FP.Core.quantum
      rw [fq_lead hA]
      rcases h3 with h3 | h3
      · omega
      · have : f.p - 1 ≤ c.log2 := (Nat.le_log2 hc0).mpr h3
        omega
    rw [hq]
    unfold FP.Core.roundAt FP.Core.unitsNum FP.Core.unitsDen
    rw [h, Nat.mul_assoc, fq_near (Nat.mul_pos p3 p2)]
    unfold FP.Core.settle FP.Core.bound
    rw [if_pos hc, if_pos h2]
/-- each significand of p digits has its one way of writing -/
theorem fq_canon {f : FP.Core.Fmt} (hp : 1 ≤ f.p) (s : Bool) : ∀ (n c : Nat), c < 2 ^ f.p → f.qmin + n ≤ f.qmax → ∃ c' q', FP.Core.fits f (.fin s c' q') ∧ FP.Core.inUnits c' q' f.qmin = c * 2 ^ n
  | 0, c, hc, hq => ⟨c, f.qmin, ⟨hc, Int.le_refl _, by omega, Or.inl rfl⟩, by unfold FP.Core.inUnits; simp⟩
  | n + 1, c, hc, hq => by
    by_cases h : f.tails ≤ c
    · refine ⟨c, f.qmin + (n + 1 : Nat), ⟨hc, by omega, hq, Or.inr h⟩, ?_⟩
      unfold FP.Core.inUnits
      rw [show (f.qmin + (n + 1 : Nat) - f.qmin).toNat = n + 1 by omega]
    · have h2 : 2 ^ f.p = 2 * f.tails := by
        rw [fq_tails, ← Nat.pow_succ', show (f.p - 1).succ = f.p by omega]
      obtain ⟨c', q', h3, h4⟩ := fq_canon hp s n (2 * c) (by omega) (by omega)
      refine ⟨c', q', h3, h4.trans ?_⟩
      rw [Nat.pow_succ]; ac_rfl
theorem fq_cross {A c b : Nat} {e q m : Int} (he : m ≤ e) (hq : m ≤ q) (h : FP.Core.inUnits A e m = FP.Core.inUnits c q m * 2 ^ b) : A * 2 ^ (e - q).toNat = c * 2 ^ b * 2 ^ (q - e).toNat := by
  unfold FP.Core.inUnits at h
  by_cases hh : q ≤ e
  · rw [show (e - m).toNat = (e - q).toNat + (q - m).toNat by omega, Nat.pow_add, ← Nat.mul_assoc, Nat.mul_right_comm] at h
    have := Nat.eq_of_mul_eq_mul_right (Nat.two_pow_pos _) (show A * 2 ^ (e - q).toNat * 2 ^ (q - m).toNat = c * 2 ^ b * 2 ^ (q - m).toNat by rw [Nat.mul_right_comm, h]; ac_rfl)
    rw [this, show (q - e).toNat = 0 by omega, Nat.pow_zero, Nat.mul_one]
  · rw [show (q - m).toNat = (q - e).toNat + (e - m).toNat by omega, Nat.pow_add] at h
    have := Nat.eq_of_mul_eq_mul_right (Nat.two_pow_pos _) (show A * 2 ^ (e - m).toNat = c * 2 ^ b * 2 ^ (q - e).toNat * 2 ^ (e - m).toNat by rw [h]; ac_rfl)
    rw [show (e - q).toNat = 0 by omega, Nat.pow_zero, Nat.mul_one, this]
/-- what is at most 2^T units stays so, and stays a number -/
theorem fq_bound {f : FP.Core.Fmt} (hp : 1 ≤ f.p) {s : Bool} {A b T : Nat} {e m0 : Int} (h0 : m0 ≤ f.qmin) (he : m0 ≤ e) (h : FP.Core.inUnits A e m0 ≤ 2 ^ (T + b + (f.qmin - m0).toNat)) (hT : f.p - 1 ≤ T) (hm : f.qmin + T + 2 - f.p ≤ f.qmax) : ∃ c q, FP.Core.roundRatio f s A (2 ^ b) e = .fin s c q ∧ FP.Core.fits f (.fin s c q) ∧ FP.Core.inUnits c q f.qmin ≤ 2 ^ T := by
  have h2p : 2 ^ f.p = 2 * f.tails := by
    rw [fq_tails, ← Nat.pow_succ', show (f.p - 1).succ = f.p by omega]
  unfold FP.Core.roundRatio
  by_cases hA : A = 0
  · rw [if_pos hA]
    exact ⟨0, f.qmin, rfl, ⟨Nat.two_pow_pos _, Int.le_refl _, by omega, Or.inl rfl⟩, by unfold FP.Core.inUnits; simp⟩
  · rw [if_neg hA]
    have l1 := Nat.log2_self_le hA
    have l2 : A < 2 ^ (A.log2 + 1) := Nat.lt_log2_self
    have hLe : A.log2 + (e - m0).toNat ≤ T + b + (f.qmin - m0).toNat := by
      have : 2 ^ (A.log2 + (e - m0).toNat) ≤ 2 ^ (T + b + (f.qmin - m0).toNat) := by
        refine Nat.le_trans ?_ h
        unfold FP.Core.inUnits
        rw [Nat.pow_add]
        exact Nat.mul_le_mul_right _ l1
      exact (Nat.pow_le_pow_iff_right (by decide)).mp this
    have hQ : FP.Core.quantum f A (2 ^ b) e = max f.qmin ((A.log2 : Int) - b + e - ((f.p : Int) - 1)) := by
      unfold FP.Core.quantum; rw [fq_lead hA]
    generalize FP.Core.quantum f A (2 ^ b) e = Q at hQ
    generalize hL : A.log2 = L at *
    have hQ1 : f.qmin ≤ Q := by omega
    have hj : (Q - f.qmin).toNat + (f.p - 1) ≤ T := by omega
    unfold FP.Core.roundAt
    have hD : 0 < FP.Core.unitsDen (2 ^ b) e Q := Nat.mul_pos (Nat.two_pow_pos _) (Nat.two_pow_pos _)
    have hx1 : FP.Core.nearest (FP.Core.unitsNum A e Q) (FP.Core.unitsDen (2 ^ b) e Q) ≤ 2 ^ f.p := by
      refine fq_near_le hD ?_
      unfold FP.Core.unitsNum FP.Core.unitsDen
      rw [← Nat.pow_add, ← Nat.pow_add]
      refine Nat.le_trans (Nat.mul_le_mul_right _ (Nat.le_of_lt l2)) ?_
      rw [← Nat.pow_add]
      exact Nat.pow_le_pow_right (by decide) (by omega)
    have hx2 : FP.Core.nearest (FP.Core.unitsNum A e Q) (FP.Core.unitsDen (2 ^ b) e Q) ≤ 2 ^ (T - (Q - f.qmin).toNat) := by
      refine fq_near_le hD ?_
      unfold FP.Core.unitsNum FP.Core.unitsDen
      unfold FP.Core.inUnits at h
      rw [← Nat.pow_add, ← Nat.pow_add]
      by_cases hh : Q ≤ e
      · refine Nat.le_of_mul_le_mul_right (c := 2 ^ (Q - m0).toNat) ?_ (Nat.two_pow_pos _)
        rw [Nat.mul_assoc, ← Nat.pow_add, ← Nat.pow_add, show (e - Q).toNat + (Q - m0).toNat = (e - m0).toNat by omega, show T - (Q - f.qmin).toNat + (b + (Q - e).toNat) + (Q - m0).toNat = T + b + (f.qmin - m0).toNat by omega]
        exact h
      · refine Nat.le_of_mul_le_mul_right (c := 2 ^ (e - m0).toNat) ?_ (Nat.two_pow_pos _)
        rw [show (e - Q).toNat = 0 by omega, Nat.pow_zero, Nat.mul_one, ← Nat.pow_add, show T - (Q - f.qmin).toNat + (b + (Q - e).toNat) + (e - m0).toNat = T + b + (f.qmin - m0).toNat by omega]
        exact h
    have hx3 : Q = f.qmin ∨ f.tails ≤ FP.Core.nearest (FP.Core.unitsNum A e Q) (FP.Core.unitsDen (2 ^ b) e Q) := by
      by_cases hq : Q = f.qmin
      · exact Or.inl hq
      · refine Or.inr (fq_near_ge hD ?_)
        unfold FP.Core.unitsNum FP.Core.unitsDen
        rw [fq_tails, ← Nat.pow_add, ← Nat.pow_add]
        refine Nat.le_trans ?_ (Nat.mul_le_mul_right _ l1)
        rw [← Nat.pow_add]
        exact Nat.pow_le_pow_right (by decide) (by omega)
    generalize FP.Core.nearest (FP.Core.unitsNum A e Q) (FP.Core.unitsDen (2 ^ b) e Q) = x at *
    have hv : x * 2 ^ (Q - f.qmin).toNat ≤ 2 ^ T := by
      refine Nat.le_trans (Nat.mul_le_mul_right _ hx2) ?_
      rw [← Nat.pow_add]
      exact Nat.pow_le_pow_right (by decide) (by omega)
    unfold FP.Core.settle FP.Core.bound
    by_cases hx : x < 2 ^ f.p
    · rw [if_pos hx, if_pos (by omega)]
      exact ⟨x, Q, rfl, ⟨hx, hQ1, by omega, hx3⟩, hv⟩
    · rw [if_neg hx, if_pos (by omega)]
      have ht : 0 < f.tails := Nat.two_pow_pos _
      refine ⟨f.tails, Q + 1, rfl, ⟨by omega, by omega, by omega, Or.inr (Nat.le_refl _)⟩, ?_⟩
      unfold FP.Core.inUnits
      rw [show (Q + 1 - f.qmin).toNat = 1 + (Q - f.qmin).toNat by omega, Nat.pow_add, ← Nat.mul_assoc, show f.tails * 2 ^ 1 = x by omega]
      exact hv

theorem fd_p : FP.Core.b64.p = 53 := rfl
theorem fd_tails : FP.Core.b64.tails = 4503599627370496 := by decide
theorem fd_exps : FP.Core.b64.exps = 2048 := by decide
theorem fd_qmin : FP.Core.b64.qmin = -1074 := by decide
theorem fd_qmax : FP.Core.b64.qmax = 971 := by decide
/-- the number a stands for: sign s, n of the format's least numbers -/
def fdU (a : UInt64) (s : Bool) (n : Nat) : Prop := ∃ c q, FP.Core.decode FP.Core.b64 a.toNat = .fin s c q ∧ FP.Core.inUnits c q FP.Core.b64.qmin = n
theorem fd_fits {n : Nat} {s : Bool} {c : Nat} {q : Int} (h : FP.Core.decode FP.Core.b64 n = .fin s c q) : FP.Core.fits FP.Core.b64 (.fin s c q) := by
  unfold FP.Core.decode FP.Core.fieldE FP.Core.fieldT at h
  rw [fd_tails, fd_exps, fd_qmin] at h
  have h1 := Nat.mod_lt n (show 0 < 4503599627370496 by decide)
  have h2 := Nat.mod_lt (n / 4503599627370496) (show 0 < 2048 by decide)
  unfold FP.Core.fits
  rw [fd_tails, fd_qmin, fd_qmax, fd_p]
  split at h
  · split at h <;> cases h
  · split at h
    · cases h
      refine ⟨by omega, by omega, by omega, Or.inl rfl⟩
    · cases h
      refine ⟨by omega, by omega, by omega, Or.inr (by omega)⟩
theorem fd_enc {s : Bool} {c : Nat} {q : Int} (h : FP.Core.fits FP.Core.b64 (.fin s c q)) : FP.Core.encode FP.Core.b64 (.fin s c q) < 18446744073709551616 ∧ FP.Core.decode FP.Core.b64 (FP.Core.encode FP.Core.b64 (.fin s c q)) = .fin s c q := by
  unfold FP.Core.fits at h
  rw [fd_tails, fd_qmin, fd_qmax, fd_p] at h
  obtain ⟨h1, h2, h3, h4⟩ := h
  have hs : s.toNat = 0 ∧ s = false ∨ s.toNat = 1 ∧ s = true := by cases s <;> simp
  have hEn : FP.Core.encode FP.Core.b64 (.fin s c q) = if c < FP.Core.b64.tails then FP.Core.assemble FP.Core.b64 s 0 c else FP.Core.assemble FP.Core.b64 s ((q - FP.Core.b64.qmin).toNat + 1) (c - FP.Core.b64.tails) := rfl
  rw [hEn]
  unfold FP.Core.assemble
  rw [fd_tails, fd_exps, fd_qmin]
  by_cases hc : c < 4503599627370496
  · rw [if_pos hc]
    have e4 : q = -1074 := by omega
    refine ⟨by omega, ?_⟩
    unfold FP.Core.decode FP.Core.fieldE FP.Core.fieldT FP.Core.fieldS
    rw [fd_tails, fd_exps, fd_qmin]
    rw [show ((s.toNat * 2048 + 0) * 4503599627370496 + c) / 4503599627370496 = s.toNat * 2048 by omega, show s.toNat * 2048 % 2048 = 0 by omega, show ((s.toNat * 2048 + 0) * 4503599627370496 + c) % 4503599627370496 = c by omega, show s.toNat * 2048 / 2048 % 2 = s.toNat by omega]
    rw [if_neg (by decide), if_pos rfl, e4]
    rcases hs with ⟨e, rfl⟩ | ⟨e, rfl⟩ <;> rfl
  · rw [if_neg hc]
    refine ⟨by omega, ?_⟩
    unfold FP.Core.decode FP.Core.fieldE FP.Core.fieldT FP.Core.fieldS
    rw [fd_tails, fd_exps, fd_qmin]
    have hE : (q - -1074).toNat + 1 < 2047 := by omega
    generalize hEe : (q - -1074).toNat + 1 = E at *
    rw [show ((s.toNat * 2048 + E) * 4503599627370496 + (c - 4503599627370496)) / 4503599627370496 = s.toNat * 2048 + E by omega, show (s.toNat * 2048 + E) % 2048 = E by omega, show ((s.toNat * 2048 + E) * 4503599627370496 + (c - 4503599627370496)) % 4503599627370496 = c - 4503599627370496 by omega, show (s.toNat * 2048 + E) / 2048 % 2 = s.toNat by omega]
    rw [if_neg (by omega), if_neg (by omega), show 4503599627370496 + (c - 4503599627370496) = c by omega, show (-1074 : Int) + ((E : Int) - 1) = q by omega]
    rcases hs with ⟨e, rfl⟩ | ⟨e, rfl⟩ <;> rfl
theorem fd_of {d : FP.Core.Datum} {s : Bool} {c : Nat} {q : Int} (e : d = .fin s c q) (h : FP.Core.fits FP.Core.b64 (.fin s c q)) : FP.Core.decode FP.Core.b64 (UInt64.ofNat (FP.Core.encode FP.Core.b64 d)).toNat = .fin s c q := by
  subst e
  have h1 := fd_enc h
  rw [UInt64.toNat_ofNat_of_lt' (by exact h1.1)]
  exact h1.2
theorem fd_bits {n m : Nat} (hn : n < 18446744073709551616) (hm : m < 18446744073709551616) {s : Bool} {c : Nat} {q : Int} (h1 : FP.Core.decode FP.Core.b64 n = .fin s c q) (h2 : FP.Core.decode FP.Core.b64 m = .fin s c q) : n = m := by
  unfold FP.Core.decode FP.Core.fieldE FP.Core.fieldT FP.Core.fieldS at h1 h2
  rw [fd_tails, fd_exps, fd_qmin] at h1 h2
  have a1 := Nat.mod_lt n (show 0 < 4503599627370496 by decide)
  have a2 := Nat.mod_lt (n / 4503599627370496) (show 0 < 2048 by decide)
  have b1 := Nat.mod_lt m (show 0 < 4503599627370496 by decide)
  have b2 := Nat.mod_lt (m / 4503599627370496) (show 0 < 2048 by decide)
  split at h1
  · split at h1 <;> cases h1
  · split at h2
    · split at h2 <;> cases h2
    · split at h1 <;> split at h2 <;>
      · simp only [FP.Core.Datum.fin.injEq] at h1 h2
        obtain ⟨s1, c1, q1⟩ := h1
        obtain ⟨s2, c2, q2⟩ := h2
        have hs : (n / 4503599627370496 / 2048 % 2 == 1) = (m / 4503599627370496 / 2048 % 2 == 1) := s1.trans s2.symm
        have hs2 : n / 4503599627370496 / 2048 % 2 = m / 4503599627370496 / 2048 % 2 := by
          have x1 := Nat.mod_lt (n / 4503599627370496 / 2048) (show 0 < 2 by decide)
          have x2 := Nat.mod_lt (m / 4503599627370496 / 2048) (show 0 < 2 by decide)
          by_cases y1 : n / 4503599627370496 / 2048 % 2 = 1 <;> by_cases y2 : m / 4503599627370496 / 2048 % 2 = 1
          · omega
          · rw [y1] at hs; simp [y2] at hs
          · rw [y2] at hs; simp [y1] at hs
          · omega
        omega
/-- a number is told by its sign and its units -/
theorem fd_inj {a b : UInt64} {s : Bool} {n : Nat} (ha : fdU a s n) (hb : fdU b s n) : a = b := by
  obtain ⟨c, q, h1, h2⟩ := ha
  obtain ⟨c', q', h3, h4⟩ := hb
  have f1 := fd_fits h1
  have f3 := fd_fits h3
  have e1 := fq_exact (f := FP.Core.b64) (by decide) (s := s) (A := c) (b := 0) (e := q) f1 (by simp)
  have e2 := fq_exact (f := FP.Core.b64) (by decide) (s := s) (A := c) (b := 0) (e := q) f3 (fq_cross f1.2.1 f3.2.1 (by rw [h2, h4]; simp))
  have e3 := e1.symm.trans e2
  apply UInt64.toNat_inj.mp
  exact fd_bits a.toNat_lt b.toNat_lt h1 (h3.trans e3.symm)
theorem fd_nn {a : UInt64} {s : Bool} {n : Nat} (ha : fdU a s n) : vf_n64 a := by
  obtain ⟨c, q, h, _⟩ := ha
  unfold FP.Core.decode FP.Core.fieldE at h
  rw [fd_tails, fd_exps] at h
  have hx : ¬ a.toNat / 4503599627370496 % 2048 = 2047 := by
    intro e
    rw [if_pos e] at h
    split at h <;> cases h
  unfold vf_n64
  rw [UInt64.le_iff_toNat_le, UInt64.toNat_and]
  have := a.toNat_lt
  have hm : a.toNat &&& (0x7fffffffffffffff : UInt64).toNat = a.toNat % 9223372036854775808 := by
    rw [show (0x7fffffffffffffff : UInt64).toNat = 2 ^ 63 - 1 from rfl, Nat.and_two_pow_sub_one_eq_mod]
  rw [hm]
  show a.toNat % 9223372036854775808 ≤ 9218868437227405312
  omega
theorem fd_isnan {a : UInt64} {s : Bool} {n : Nat} (ha : fdU a s n) : FP.Core.dIsNaN a = false := by
  obtain ⟨c, q, h, _⟩ := ha
  show decide (FP.Core.decode FP.Core.b64 a.toNat = .nan) = false
  rw [h]; rfl

theorem ff_p : FP.Core.b32.p = 24 := rfl
theorem ff_tails : FP.Core.b32.tails = 8388608 := by decide
theorem ff_exps : FP.Core.b32.exps = 256 := by decide
theorem ff_qmin : FP.Core.b32.qmin = -149 := by decide
theorem ff_qmax : FP.Core.b32.qmax = 104 := by decide
/-- the number a stands for: sign s, n of the format's least numbers -/
def ffU (a : UInt32) (s : Bool) (n : Nat) : Prop := ∃ c q, FP.Core.decode FP.Core.b32 a.toNat = .fin s c q ∧ FP.Core.inUnits c q FP.Core.b32.qmin = n
theorem ff_fits {n : Nat} {s : Bool} {c : Nat} {q : Int} (h : FP.Core.decode FP.Core.b32 n = .fin s c q) : FP.Core.fits FP.Core.b32 (.fin s c q) := by
  unfold FP.Core.decode FP.Core.fieldE FP.Core.fieldT at h
  rw [ff_tails, ff_exps, ff_qmin] at h
  have h1 := Nat.mod_lt n (show 0 < 8388608 by decide)
  have h2 := Nat.mod_lt (n / 8388608) (show 0 < 256 by decide)
  unfold FP.Core.fits
  rw [ff_tails, ff_qmin, ff_qmax, ff_p]
  split at h
  · split at h <;> cases h
  · split at h
    · cases h
      refine ⟨by omega, by omega, by omega, Or.inl rfl⟩
    · cases h
      refine ⟨by omega, by omega, by omega, Or.inr (by omega)⟩
theorem ff_enc {s : Bool} {c : Nat} {q : Int} (h : FP.Core.fits FP.Core.b32 (.fin s c q)) : FP.Core.encode FP.Core.b32 (.fin s c q) < 4294967296 ∧ FP.Core.decode FP.Core.b32 (FP.Core.encode FP.Core.b32 (.fin s c q)) = .fin s c q := by
  unfold FP.Core.fits at h
  rw [ff_tails, ff_qmin, ff_qmax, ff_p] at h
  obtain ⟨h1, h2, h3, h4⟩ := h
  have hs : s.toNat = 0 ∧ s = false ∨ s.toNat = 1 ∧ s = true := by cases s <;> simp
  have hEn : FP.Core.encode FP.Core.b32 (.fin s c q) = if c < FP.Core.b32.tails then FP.Core.assemble FP.Core.b32 s 0 c else FP.Core.assemble FP.Core.b32 s ((q - FP.Core.b32.qmin).toNat + 1) (c - FP.Core.b32.tails) := rfl
  rw [hEn]
  unfold FP.Core.assemble
  rw [ff_tails, ff_exps, ff_qmin]
  by_cases hc : c < 8388608
  · rw [if_pos hc]
    have e4 : q = -149 := by omega
    refine ⟨by omega, ?_⟩
    unfold FP.Core.decode FP.Core.fieldE FP.Core.fieldT FP.Core.fieldS
    rw [ff_tails, ff_exps, ff_qmin]
    rw [show ((s.toNat * 256 + 0) * 8388608 + c) / 8388608 = s.toNat * 256 by omega, show s.toNat * 256 % 256 = 0 by omega, show ((s.toNat * 256 + 0) * 8388608 + c) % 8388608 = c by omega, show s.toNat * 256 / 256 % 2 = s.toNat by omega]
    rw [if_neg (by decide), if_pos rfl, e4]
    rcases hs with ⟨e, rfl⟩ | ⟨e, rfl⟩ <;> rfl
  · rw [if_neg hc]
    refine ⟨by omega, ?_⟩
    unfold FP.Core.decode FP.Core.fieldE FP.Core.fieldT FP.Core.fieldS
    rw [ff_tails, ff_exps, ff_qmin]
    have hE : (q - -149).toNat + 1 < 255 := by omega
    generalize hEe : (q - -149).toNat + 1 = E at *
    rw [show ((s.toNat * 256 + E) * 8388608 + (c - 8388608)) / 8388608 = s.toNat * 256 + E by omega, show (s.toNat * 256 + E) % 256 = E by omega, show ((s.toNat * 256 + E) * 8388608 + (c - 8388608)) % 8388608 = c - 8388608 by omega, show (s.toNat * 256 + E) / 256 % 2 = s.toNat by omega]
    rw [if_neg (by omega), if_neg (by omega), show 8388608 + (c - 8388608) = c by omega, show (-149 : Int) + ((E : Int) - 1) = q by omega]
    rcases hs with ⟨e, rfl⟩ | ⟨e, rfl⟩ <;> rfl
theorem ff_of {d : FP.Core.Datum} {s : Bool} {c : Nat} {q : Int} (e : d = .fin s c q) (h : FP.Core.fits FP.Core.b32 (.fin s c q)) : FP.Core.decode FP.Core.b32 (UInt32.ofNat (FP.Core.encode FP.Core.b32 d)).toNat = .fin s c q := by
  subst e
  have h1 := ff_enc h
  rw [UInt32.toNat_ofNat_of_lt' (by exact h1.1)]
  exact h1.2
theorem ff_bits {n m : Nat} (hn : n < 4294967296) (hm : m < 4294967296) {s : Bool} {c : Nat} {q : Int} (h1 : FP.Core.decode FP.Core.b32 n = .fin s c q) (h2 : FP.Core.decode FP.Core.b32 m = .fin s c q) : n = m := by
  unfold FP.Core.decode FP.Core.fieldE FP.Core.fieldT FP.Core.fieldS at h1 h2
  rw [ff_tails, ff_exps, ff_qmin] at h1 h2
  have a1 := Nat.mod_lt n (show 0 < 8388608 by decide)
  have a2 := Nat.mod_lt (n / 8388608) (show 0 < 256 by decide)
  have b1 := Nat.mod_lt m (show 0 < 8388608 by decide)
  have b2 := Nat.mod_lt (m / 8388608) (show 0 < 256 by decide)
  split at h1
  · split at h1 <;> cases h1
  · split at h2
    · split at h2 <;> cases h2
    · split at h1 <;> split at h2 <;>
      · simp only [FP.Core.Datum.fin.injEq] at h1 h2
        obtain ⟨s1, c1, q1⟩ := h1
        obtain ⟨s2, c2, q2⟩ := h2
        have hs : (n / 8388608 / 256 % 2 == 1) = (m / 8388608 / 256 % 2 == 1) := s1.trans s2.symm
        have hs2 : n / 8388608 / 256 % 2 = m / 8388608 / 256 % 2 := by
          have x1 := Nat.mod_lt (n / 8388608 / 256) (show 0 < 2 by decide)
          have x2 := Nat.mod_lt (m / 8388608 / 256) (show 0 < 2 by decide)
          by_cases y1 : n / 8388608 / 256 % 2 = 1 <;> by_cases y2 : m / 8388608 / 256 % 2 = 1
          · omega
          · rw [y1] at hs; simp [y2] at hs
          · rw [y2] at hs; simp [y1] at hs
          · omega
        omega
/-- a number is told by its sign and its units -/
theorem ff_inj {a b : UInt32} {s : Bool} {n : Nat} (ha : ffU a s n) (hb : ffU b s n) : a = b := by
  obtain ⟨c, q, h1, h2⟩ := ha
  obtain ⟨c', q', h3, h4⟩ := hb
  have f1 := ff_fits h1
  have f3 := ff_fits h3
  have e1 := fq_exact (f := FP.Core.b32) (by decide) (s := s) (A := c) (b := 0) (e := q) f1 (by simp)
  have e2 := fq_exact (f := FP.Core.b32) (by decide) (s := s) (A := c) (b := 0) (e := q) f3 (fq_cross f1.2.1 f3.2.1 (by rw [h2, h4]; simp))
  have e3 := e1.symm.trans e2
  apply UInt32.toNat_inj.mp
  exact ff_bits a.toNat_lt b.toNat_lt h1 (h3.trans e3.symm)
theorem ff_nn {a : UInt32} {s : Bool} {n : Nat} (ha : ffU a s n) : vf_n32 a := by
  obtain ⟨c, q, h, _⟩ := ha
  unfold FP.Core.decode FP.Core.fieldE at h
  rw [ff_tails, ff_exps] at h
  have hx : ¬ a.toNat / 8388608 % 256 = 255 := by
    intro e
    rw [if_pos e] at h
    split at h <;> cases h
  unfold vf_n32
  rw [UInt32.le_iff_toNat_le, UInt32.toNat_and]
  have := a.toNat_lt
  have hm : a.toNat &&& (0x7fffffff : UInt32).toNat = a.toNat % 2147483648 := by
    rw [show (0x7fffffff : UInt32).toNat = 2 ^ 31 - 1 from rfl, Nat.and_two_pow_sub_one_eq_mod]
  rw [hm]
  show a.toNat % 2147483648 ≤ 2139095040
  omega
theorem ff_isnan {a : UInt32} {s : Bool} {n : Nat} (ha : ffU a s n) : FP.Core.fIsNaN a = false := by
  obtain ⟨c, q, h, _⟩ := ha
  show decide (FP.Core.decode FP.Core.b32 a.toNat = .nan) = false
  rw [h]; rfl
theorem fq_round {f : FP.Core.Fmt} (hp : 1 ≤ f.p) {s : Bool} {N c : Nat} {e q m : Int} (hf : FP.Core.fits f (.fin s c q)) (he : m ≤ e) (hq : m ≤ q) (h : FP.Core.inUnits N e m = FP.Core.inUnits c q m) : FP.Core.round f (.fin s N e) = .fin s c q := by
  have := fq_exact hp hf (A := N) (b := 0) (e := e) (fq_cross he hq (by rw [h]; simp))
  rw [Nat.pow_zero] at this
  exact this
theorem fq_move (c : Nat) {q r e : Int} (h1 : e ≤ r) (h2 : r ≤ q) : FP.Core.inUnits c q e = FP.Core.inUnits c q r * 2 ^ (r - e).toNat := by
  unfold FP.Core.inUnits
  rw [Nat.mul_assoc, ← Nat.pow_add, show (q - r).toNat + (r - e).toNat = (q - e).toNat by omega]
theorem fq_sgn (s : Bool) (c k : Nat) : FP.Core.signed s (c * k) = FP.Core.signed s c * (k : Int) := by
  cases s <;> simp [FP.Core.signed, Int.neg_mul]
theorem fq_cmp {a b : Int} {k : Nat} (hk : 0 < k) : compare (a * (k : Int)) (b * (k : Int)) = compare a b := by
  have hk2 : (0 : Int) < k := by omega
  have h1 : a * (k : Int) < b * (k : Int) ↔ a < b := ⟨fun h => Int.lt_of_mul_lt_mul_right h (by omega), fun h => Int.mul_lt_mul_of_pos_right h hk2⟩
  have h2 : a * (k : Int) = b * (k : Int) ↔ a = b := ⟨fun h => Int.eq_of_mul_eq_mul_right (by omega) h, fun h => by rw [h]⟩
  simp only [compare, compareOfLessAndEq, h1, h2]
theorem fq_order {f : FP.Core.Fmt} {s t : Bool} {c d : Nat} {q r : Int} (hq : f.qmin ≤ q) (hr : f.qmin ≤ r) : FP.Core.order (.fin s c q) (.fin t d r) = some (compare (FP.Core.signed s (FP.Core.inUnits c q f.qmin)) (FP.Core.signed t (FP.Core.inUnits d r f.qmin))) := by
  show some (compare (FP.Core.signed s (FP.Core.inUnits c q (min q r))) (FP.Core.signed t (FP.Core.inUnits d r (min q r)))) = _
  rw [fq_move c (e := f.qmin) (r := min q r) (q := q) (by omega) (by omega), fq_move d (e := f.qmin) (r := min q r) (q := r) (by omega) (by omega), fq_sgn, fq_sgn, fq_cmp (Nat.two_pow_pos _)]
theorem fd_order {a b : UInt64} {s t : Bool} {n m : Nat} (ha : fdU a s n) (hb : fdU b t m) : FP.dcmp a b = some (compare (FP.Core.signed s n) (FP.Core.signed t m)) := by
  obtain ⟨c, q, h1, h2⟩ := ha
  obtain ⟨d, r, h3, h4⟩ := hb
  show FP.Core.order (FP.Core.decode FP.Core.b64 a.toNat) (FP.Core.decode FP.Core.b64 b.toNat) = _
  rw [h1, h3, fq_order (fd_fits h1).2.1 (fd_fits h3).2.1, h2, h4]
theorem ff_order {a b : UInt32} {s t : Bool} {n m : Nat} (ha : ffU a s n) (hb : ffU b t m) : FP.fcmp a b = some (compare (FP.Core.signed s n) (FP.Core.signed t m)) := by
  obtain ⟨c, q, h1, h2⟩ := ha
  obtain ⟨d, r, h3, h4⟩ := hb
  show FP.Core.order (FP.Core.decode FP.Core.b32 a.toNat) (FP.Core.decode FP.Core.b32 b.toNat) = _
  rw [h1, h3, fq_order (ff_fits h1).2.1 (ff_fits h3).2.1, h2, h4]
theorem fq_val (x y : Int) (o : CmpOp) : Op.cmpValue (some (compare x y)) o = if x < y then -1 else if x = y then 0 else 1 := by
  simp only [compare, compareOfLessAndEq]
  by_cases h : x < y
  · rw [if_pos h, if_pos h]; rfl
  · rw [if_neg h, if_neg h]
    by_cases h2 : x = y
    · rw [if_pos h2, if_pos h2]; rfl
    · rw [if_neg h2, if_neg h2]; rfl
theorem fq_gt (x y : Int) (o : CmpOp) : (0 : Int32) < Op.cmpValue (some (compare x y)) o ↔ y < x := by
  rw [fq_val]
  by_cases h : x < y
  · rw [if_pos h]; exact ⟨fun h => absurd h (by decide), fun h => absurd h (by omega)⟩
  · rw [if_neg h]
    by_cases h2 : x = y
    · rw [if_pos h2]; exact ⟨fun h => absurd h (by decide), fun h => absurd h (by omega)⟩
    · rw [if_neg h2]; exact ⟨fun _ => by omega, fun _ => by decide⟩
theorem fq_ge (x y : Int) (o : CmpOp) : (0 : Int32) ≤ Op.cmpValue (some (compare x y)) o ↔ y ≤ x := by
  rw [fq_val]
  by_cases h : x < y
  · rw [if_pos h]; exact ⟨fun h => absurd h (by decide), fun h => absurd h (by omega)⟩
  · rw [if_neg h]
    by_cases h2 : x = y
    · rw [if_pos h2]; exact ⟨fun _ => by omega, fun _ => by decide⟩
    · rw [if_neg h2]; exact ⟨fun _ => by omega, fun _ => by decide⟩
theorem fq_eq (x y : Int) (o : CmpOp) : Op.cmpValue (some (compare x y)) o = (0 : Int32) ↔ x = y := by
  rw [fq_val]
  by_cases h : x < y
  · rw [if_pos h]; exact ⟨fun h => absurd h (by decide), fun h => absurd h (by omega)⟩
  · rw [if_neg h]
    by_cases h2 : x = y
    · rw [if_pos h2]; exact ⟨fun _ => h2, fun _ => rfl⟩
    · rw [if_neg h2]; exact ⟨fun h => absurd h (by decide), fun h => absurd h h2⟩
theorem fd_0 : fdU FP.dconst0 false 0 := ⟨0, -1074, by decide +kernel, by unfold FP.Core.inUnits; simp⟩
theorem ff_0 : ffU FP.fconst0 false 0 := ⟨0, -149, by decide +kernel, by unfold FP.Core.inUnits; simp⟩
theorem fd_2 : FP.Core.decode FP.Core.b64 (4611686018427387904 : UInt64).toNat = .fin false (2 ^ 52) (-51) := by decide +kernel
theorem ff_2 : FP.Core.decode FP.Core.b32 FP.fconst2.toNat = .fin false (2 ^ 23) (-22) := by decide +kernel
theorem fd_mk {a : UInt64} {d : FP.Core.Datum} {s : Bool} {c : Nat} {q : Int} {n : Nat} (e : a = UInt64.ofNat (FP.Core.encode FP.Core.b64 d)) (h : d = .fin s c q) (hf : FP.Core.fits FP.Core.b64 (.fin s c q)) (hn : FP.Core.inUnits c q FP.Core.b64.qmin = n) : fdU a s n := by
  subst e
  exact ⟨c, q, fd_of h hf, hn⟩
theorem ff_mk {a : UInt32} {d : FP.Core.Datum} {s : Bool} {c : Nat} {q : Int} {n : Nat} (e : a = UInt32.ofNat (FP.Core.encode FP.Core.b32 d)) (h : d = .fin s c q) (hf : FP.Core.fits FP.Core.b32 (.fin s c q)) (hn : FP.Core.inUnits c q FP.Core.b32.qmin = n) : ffU a s n := by
  subst e
  exact ⟨c, q, ff_of h hf, hn⟩
theorem fq_big {c : Nat} {q : Int} {s : Bool} {n : Nat} (hf : FP.Core.fits FP.Core.b64 (.fin s c q)) (hu : FP.Core.inUnits c q FP.Core.b64.qmin = n) (hn : n ≤ 2 ^ 1137) : q ≤ 11 := by
  obtain ⟨h1, h2, h3, h4⟩ := hf
  rw [fd_qmin] at h2 h4 hu
  rcases h4 with h4 | h4
  · omega
  · have h5 : 2 ^ (52 + (q - -1074).toNat) ≤ 2 ^ 1137 := by
      refine Nat.le_trans ?_ hn
      rw [← hu]
      unfold FP.Core.inUnits
      rw [Nat.pow_add]
      exact Nat.mul_le_mul_right _ h4
    have := (Nat.pow_le_pow_iff_right (by decide)).mp h5
    omega
theorem fd_dbl {a : UInt64} {n : Nat} (ha : fdU a false n) (hn : n ≤ 2 ^ 1137) : fdU (FP.dadd a a) false (2 * n) := by
  obtain ⟨c, q, h, hu⟩ := ha
  have f := fd_fits h
  have hq := fq_big f hu hn
  have q1 := f.2.1
  rw [fd_qmin] at q1
  have e1 : FP.Core.exactSum (.fin false c q) (.fin false c q) = .fin false (2 * c) q := by
    show FP.Core.Datum.fin (FP.Core.sumSign false false (FP.Core.sumUnits false c q false c q (min q q))) (FP.Core.sumUnits false c q false c q (min q q)).natAbs (min q q) = _
    have e2 : FP.Core.sumUnits false c q false c q (min q q) = ((2 * c : Nat) : Int) := by
      unfold FP.Core.sumUnits FP.Core.signed FP.Core.inUnits
      rw [show (q - min q q).toNat = 0 by omega]
      simp
      omega
    rw [e2, show min q q = q by omega]
    have e3 : FP.Core.sumSign false false ((2 * c : Nat) : Int) = false := by
      unfold FP.Core.sumSign
      split
      · rfl
      · rw [decide_eq_false (by omega)]
    rw [e3]; rfl
  obtain ⟨c', q', f', u'⟩ := fq_canon (f := FP.Core.b64) (by decide) false ((q - -1074).toNat + 1) c f.1 (by rw [fd_qmin, fd_qmax]; omega)
  have hr : FP.Core.round FP.Core.b64 (.fin false (2 * c) q) = .fin false c' q' := fq_round (by decide) f' f.2.1 f'.2.1 (by
    rw [u']
    unfold FP.Core.inUnits
    rw [fd_qmin, Nat.pow_succ]; ac_rfl)
  refine fd_mk (a := FP.dadd a a) (c := c') (q := q') rfl (by rw [h, e1]; exact hr) f' ?_
  rw [u', ← hu]
  unfold FP.Core.inUnits
  rw [fd_qmin, Nat.pow_succ]; ac_rfl
theorem fd_sub {a b : UInt64} {n m : Nat} (ha : fdU a false n) (hb : fdU b false m) (h1 : m ≤ n) (h2 : n ≤ 2 * m) : fdU (FP.dsub a b) false (n - m) := by
  obtain ⟨c, q, h, hu⟩ := ha
  obtain ⟨d, r, k, ku⟩ := hb
  have f := fd_fits h
  have g := fd_fits k
  have f1 := f.2.1
  have g1 := g.2.1
  have f2 := f.2.2.1
  have g2 := g.2.2.1
  rw [fq_move c (e := FP.Core.b64.qmin) (r := min q r) (q := q) (by omega) (by omega)] at hu
  rw [fq_move d (e := FP.Core.b64.qmin) (r := min q r) (q := r) (by omega) (by omega)] at ku
  have hk := Nat.two_pow_pos (min q r - FP.Core.b64.qmin).toNat
  have hxy : FP.Core.inUnits d r (min q r) ≤ FP.Core.inUnits c q (min q r) := Nat.le_of_mul_le_mul_right (by rw [hu, ku]; exact h1) hk
  have hxy2 : FP.Core.inUnits c q (min q r) ≤ 2 * FP.Core.inUnits d r (min q r) := Nat.le_of_mul_le_mul_right (by rw [hu, Nat.mul_assoc, ku]; exact h2) hk
  have hlt : FP.Core.inUnits c q (min q r) - FP.Core.inUnits d r (min q r) < 2 ^ FP.Core.b64.p := by
    by_cases hh : q ≤ r
    · have : FP.Core.inUnits c q (min q r) = c := by unfold FP.Core.inUnits; rw [show (q - min q r).toNat = 0 by omega]; simp
      have := f.1
      omega
    · have : FP.Core.inUnits d r (min q r) = d := by unfold FP.Core.inUnits; rw [show (r - min q r).toNat = 0 by omega]; simp
      have := g.1
      omega
  have e1 : FP.Core.exactSum (.fin false c q) (.fin true d r) = .fin false (FP.Core.inUnits c q (min q r) - FP.Core.inUnits d r (min q r)) (min q r) := by
    show FP.Core.Datum.fin (FP.Core.sumSign false true (FP.Core.sumUnits false c q true d r (min q r))) (FP.Core.sumUnits false c q true d r (min q r)).natAbs (min q r) = _
    have e2 : FP.Core.sumUnits false c q true d r (min q r) = ((FP.Core.inUnits c q (min q r) - FP.Core.inUnits d r (min q r) : Nat) : Int) := by
      unfold FP.Core.sumUnits FP.Core.signed
      rw [if_neg (by decide), if_pos rfl]
      omega
    rw [e2]
    have e3 : FP.Core.sumSign false true ((FP.Core.inUnits c q (min q r) - FP.Core.inUnits d r (min q r) : Nat) : Int) = false := by
      unfold FP.Core.sumSign
      split
      · rfl
      · rw [decide_eq_false (by omega)]
    rw [e3]; rfl
  obtain ⟨c', q', f', u'⟩ := fq_canon (f := FP.Core.b64) (by decide) false (min q r - FP.Core.b64.qmin).toNat _ hlt (by omega)
  refine fd_mk (a := FP.dsub a b) (c := c') (q := q') rfl (by rw [h, k]; show FP.Core.round FP.Core.b64 (FP.Core.exactSum (.fin false c q) (.fin true d r)) = _; rw [e1]; exact fq_round (by decide) f' (show FP.Core.b64.qmin ≤ min q r by omega) f'.2.1 (by rw [u']; rfl)) f' ?_
  rw [u', Nat.sub_mul, hu, ku]
theorem fd_half {a b : UInt64} {s : Bool} {n : Nat} (ha : fdU a s (2 * n)) (hb : fdU b s n) : FP.ddiv a 4611686018427387904 = b := by
  refine fd_inj ?_ hb
  obtain ⟨c, q, h, hu⟩ := ha
  obtain ⟨c', q', k, ku⟩ := hb
  have f := fd_fits h
  have g := fd_fits k
  have f1 := f.2.1
  have hd : FP.Core.quotient FP.Core.b64 (FP.Core.decode FP.Core.b64 a.toNat) (FP.Core.decode FP.Core.b64 (4611686018427387904 : UInt64).toNat) = .fin s c' q' := by
    rw [h, fd_2]
    show (if (2 ^ 52 : Nat) = 0 then (if c = 0 then .nan else .inf (s != false)) else FP.Core.roundRatio FP.Core.b64 (s != false) c (2 ^ 52) (q - -51)) = _
    rw [if_neg (by decide), show (s != false) = s by cases s <;> rfl]
    refine fq_exact (by decide) g (fq_cross (m := FP.Core.b64.qmin) (by omega) g.2.1 ?_)
    rw [ku]
    unfold FP.Core.inUnits at hu ⊢
    rw [show (q - -51 - FP.Core.b64.qmin).toNat = (q - FP.Core.b64.qmin).toNat + 51 by omega, Nat.pow_add, ← Nat.mul_assoc, hu]
    rw [show (2 : Nat) ^ 52 = 2 * 2 ^ 51 by decide]; ac_rfl
  exact fd_mk (a := FP.ddiv a 4611686018427387904) rfl hd g ku
theorem fq_xor {x : Nat} {k : Nat} (h : x < 2 ^ k) : x ^^^ 2 ^ k = 2 ^ k + x := by
  apply Nat.eq_of_testBit_eq
  intro i
  rw [Nat.testBit_xor, Nat.testBit_two_pow]
  by_cases h1 : i < k
  · rw [Nat.testBit_two_pow_add_gt h1]
    simp [show ¬ k = i by omega]
  · by_cases h2 : i = k
    · subst h2
      rw [Nat.testBit_two_pow_add_eq]
      simp [Nat.testBit_lt_two_pow h]
    · have h3 : 2 ^ k + x < 2 ^ i := by
        have : 2 ^ (k + 1) ≤ 2 ^ i := Nat.pow_le_pow_right (by decide) (by omega)
        rw [Nat.pow_succ] at this
        omega
      rw [Nat.testBit_lt_two_pow h3, Nat.testBit_lt_two_pow (Nat.lt_of_lt_of_le h (by omega))]
      simp [show ¬ k = i by omega]
theorem fd_neg {a : UInt64} {s : Bool} {n : Nat} (ha : fdU a s n) : fdU (FP.dneg a) (!s) n := by
  obtain ⟨c, q, h, hu⟩ := ha
  refine ⟨c, q, ?_, hu⟩
  have hl := a.toNat_lt
  have hx : (FP.dneg a).toNat = a.toNat ^^^ 2 ^ 63 := by
    unfold FP.dneg; rw [UInt64.toNat_xor]; rfl
  have hy : (FP.dneg a).toNat = a.toNat + 9223372036854775808 ∨ (FP.dneg a).toNat + 9223372036854775808 = a.toNat := by
    rw [hx]
    by_cases hh : a.toNat < 2 ^ 63
    · left; rw [fq_xor hh]; omega
    · right
      have e : a.toNat = (a.toNat - 2 ^ 63) ^^^ 2 ^ 63 := by rw [fq_xor (by omega)]; omega
      have e2 : a.toNat ^^^ 2 ^ 63 = a.toNat - 2 ^ 63 := by
        rw [e, Nat.xor_assoc, Nat.xor_self, Nat.xor_zero, ← e]
      rw [e2]; omega
  unfold FP.Core.decode FP.Core.fieldE FP.Core.fieldT FP.Core.fieldS at h ⊢
  rw [fd_tails, fd_exps] at h ⊢
  generalize (FP.dneg a).toNat = N at *
  rw [show N / 4503599627370496 % 2048 = a.toNat / 4503599627370496 % 2048 by omega, show N % 4503599627370496 = a.toNat % 4503599627370496 by omega]
  have hs : (N / 4503599627370496 / 2048 % 2 == 1) = !(a.toNat / 4503599627370496 / 2048 % 2 == 1) := by
    by_cases y : a.toNat / 4503599627370496 / 2048 % 2 = 1
    · rw [show N / 4503599627370496 / 2048 % 2 = 0 by omega, y]; rfl
    · rw [show N / 4503599627370496 / 2048 % 2 = 1 by omega, show a.toNat / 4503599627370496 / 2048 % 2 = 0 by omega]; rfl
  rw [hs]
  split at h
  · split at h <;> cases h
  · rename_i h1
    rw [if_neg h1]
    split at h
    · rename_i h2; rw [if_pos h2]; cases h; rfl
    · rename_i h2; rw [if_neg h2]; cases h; rfl
theorem fq_rem {f : FP.Core.Fmt} (hp : 1 ≤ f.p) {s t : Bool} {c d : Nat} {q r : Int} (hx : FP.Core.fits f (.fin s c q)) (hy : FP.Core.fits f (.fin t d r)) (hd : ¬ FP.Core.inUnits d r f.qmin = 0) : ∃ c' q', FP.Core.round f (FP.Core.exactRemainder (.fin s c q) (.fin t d r)) = .fin s c' q' ∧ FP.Core.fits f (.fin s c' q') ∧ FP.Core.inUnits c' q' f.qmin = FP.Core.inUnits c q f.qmin % FP.Core.inUnits d r f.qmin := by
  have x1 := hx.2.1
  have y1 := hy.2.1
  have x2 := hx.2.2.1
  have y2 := hy.2.2.1
  have hd0 : ¬ d = 0 := fun e => hd (by rw [e]; unfold FP.Core.inUnits; simp)
  have e1 : FP.Core.exactRemainder (.fin s c q) (.fin t d r) = .fin s (FP.Core.inUnits c q (min q r) % FP.Core.inUnits d r (min q r)) (min q r) := by
    show (if d = 0 then _ else _) = _
    rw [if_neg hd0]
  have hm : FP.Core.inUnits c q (min q r) % FP.Core.inUnits d r (min q r) < 2 ^ f.p := by
    by_cases hh : q ≤ r
    · have : FP.Core.inUnits c q (min q r) = c := by unfold FP.Core.inUnits; rw [show (q - min q r).toNat = 0 by omega]; simp
      rw [this]
      exact Nat.lt_of_le_of_lt (Nat.mod_le _ _) hx.1
    · have : FP.Core.inUnits d r (min q r) = d := by unfold FP.Core.inUnits; rw [show (r - min q r).toNat = 0 by omega]; simp
      rw [this]
      exact Nat.lt_trans (Nat.mod_lt _ (by omega)) hy.1
  obtain ⟨c', q', f', u'⟩ := fq_canon hp s (min q r - f.qmin).toNat _ hm (by omega)
  refine ⟨c', q', ?_, f', ?_⟩
  · rw [e1]; exact fq_round hp f' (show f.qmin ≤ min q r by omega) f'.2.1 (by rw [u']; rfl)
  · rw [u', fq_move c (e := f.qmin) (r := min q r) (q := q) (by omega) (by omega), fq_move d (e := f.qmin) (r := min q r) (q := r) (by omega) (by omega), Nat.mul_mod_mul_right]
theorem fd_rem {a b : UInt64} {s t : Bool} {n m : Nat} (ha : fdU a s n) (hb : fdU b t m) (hm : ¬ m = 0) : fdU (FP.drem a b) s (n % m) := by
  obtain ⟨c, q, h, rfl⟩ := ha
  obtain ⟨d, r, k, rfl⟩ := hb
  obtain ⟨c', q', e1, f', u'⟩ := fq_rem (by decide) (fd_fits h) (fd_fits k) hm
  exact fd_mk (a := FP.drem a b) rfl (by rw [h, k]; exact e1) f' u'
theorem ff_rem {a b : UInt32} {s t : Bool} {n m : Nat} (ha : ffU a s n) (hb : ffU b t m) (hm : ¬ m = 0) : ffU (FP.frem a b) s (n % m) := by
  obtain ⟨c, q, h, rfl⟩ := ha
  obtain ⟨d, r, k, rfl⟩ := hb
  obtain ⟨c', q', e1, f', u'⟩ := fq_rem (by decide) (ff_fits h) (ff_fits k) hm
  exact ff_mk (a := FP.frem a b) rfl (by rw [h, k]; exact e1) f' u'
theorem ff_f2d {a : UInt32} {s : Bool} {n : Nat} (ha : ffU a s n) : fdU (FP.f2d a) s (n * 2 ^ 925) := by
  have hn := ff_isnan ha
  obtain ⟨c, q, h, hu⟩ := ha
  have f := ff_fits h
  have f1 := f.2.1
  have f2 := f.2.2.1
  have f0 := f.1
  rw [ff_qmin] at f1 hu
  rw [ff_qmax] at f2
  rw [ff_p] at f0
  obtain ⟨c', q', f', u'⟩ := fq_canon (f := FP.Core.b64) (by decide) s (q - -1074).toNat c (by rw [fd_p]; omega) (by rw [fd_qmin, fd_qmax]; omega)
  refine fd_mk (a := FP.f2d a) (d := FP.Core.round FP.Core.b64 (FP.Core.decode FP.Core.b32 a.toNat)) (by unfold FP.f2d; rw [hn]; rfl) (by rw [h]; exact fq_round (by decide) f' (show FP.Core.b64.qmin ≤ q by rw [fd_qmin]; omega) f'.2.1 (by rw [u', fd_qmin]; rfl)) f' ?_
  rw [u', ← hu]
  unfold FP.Core.inUnits
  rw [Nat.mul_assoc, ← Nat.pow_add, show (q - -149).toNat + 925 = (q - -1074).toNat by omega]
theorem fd_d2f {a : UInt64} {b : UInt32} {s : Bool} {n : Nat} (ha : fdU a s (n * 2 ^ 925)) (hb : ffU b s n) : FP.d2f a = b := by
  have hn := fd_isnan ha
  refine ff_inj ?_ hb
  obtain ⟨c, q, h, hu⟩ := ha
  obtain ⟨c', q', k, ku⟩ := hb
  have f := fd_fits h
  have g := ff_fits k
  have g1 := g.2.1
  rw [ff_qmin] at g1
  have hr : FP.Core.round FP.Core.b32 (.fin s c q) = .fin s c' q' := fq_round (m := FP.Core.b64.qmin) (by decide) g f.2.1 (by rw [fd_qmin]; omega) (by
    rw [hu, ← ku, fd_qmin, ff_qmin]
    unfold FP.Core.inUnits
    rw [Nat.mul_assoc, ← Nat.pow_add, show (q' - -149).toNat + 925 = (q' - -1074).toNat by omega])
  exact ff_mk (a := FP.d2f a) (d := FP.Core.round FP.Core.b32 (FP.Core.decode FP.Core.b64 a.toNat)) (by unfold FP.d2f; rw [hn]; rfl) (by rw [h]; exact hr) g ku
/-- finite, at most 2^63 -/
def fdB (a : UInt64) : Prop := ∃ s n, fdU a s n ∧ n ≤ 2 ^ 1137
def ffB (a : UInt32) : Prop := ∃ s n, ffU a s n ∧ n ≤ 2 ^ 212
theorem fdB_nn {a : UInt64} (h : fdB a) : vf_n64 a := by obtain ⟨s, n, h, _⟩ := h; exact fd_nn h
theorem ffB_nn {a : UInt32} (h : ffB a) : vf_n32 a := by obtain ⟨s, n, h, _⟩ := h; exact ff_nn h
theorem fdB_0 : fdB FP.dconst0 := ⟨_, _, fd_0, Nat.zero_le _⟩
theorem ffB_0 : ffB FP.fconst0 := ⟨_, _, ff_0, Nat.zero_le _⟩
theorem abs64 (v : Int64) : v.toInt.natAbs ≤ 2 ^ 63 := by
  have h1 := v.toInt_lt
  have h2 := v.le_toInt
  omega
theorem l2d_B (v : Int64) : fdB (FP.l2d v) := by
  obtain ⟨c, q, e, f, u⟩ := fq_bound (f := FP.Core.b64) (by decide) (s := decide (v.toInt < 0)) (A := v.toInt.natAbs) (b := 0) (T := 1137) (e := 0) (m0 := -1074) (by rw [fd_qmin]; omega) (by omega) (by
    rw [fd_qmin, show (-1074 - -1074 : Int).toNat = 0 by decide]
    unfold FP.Core.inUnits
    rw [show (0 - -1074 : Int).toNat = 1074 by decide, show 1137 + 0 + 0 = 63 + 1074 by decide, Nat.pow_add]
    exact Nat.mul_le_mul_right _ (abs64 v)) (by decide) (by rw [fd_qmin, fd_qmax, fd_p]; decide)
  exact ⟨_, _, fd_mk (a := FP.l2d v) rfl e f rfl, u⟩
theorem l2f_B (v : Int64) : ffB (FP.l2f v) := by
  obtain ⟨c, q, e, f, u⟩ := fq_bound (f := FP.Core.b32) (by decide) (s := decide (v.toInt < 0)) (A := v.toInt.natAbs) (b := 0) (T := 212) (e := 0) (m0 := -149) (by rw [ff_qmin]; omega) (by omega) (by
    rw [ff_qmin, show (-149 - -149 : Int).toNat = 0 by decide]
    unfold FP.Core.inUnits
    rw [show (0 - -149 : Int).toNat = 149 by decide, show 212 + 0 + 0 = 63 + 149 by decide, Nat.pow_add]
    exact Nat.mul_le_mul_right _ (abs64 v)) (by decide) (by rw [ff_qmin, ff_qmax, ff_p]; decide)
  exact ⟨_, _, ff_mk (a := FP.l2f v) rfl e f rfl, u⟩
theorem f2d_B {a : UInt32} (h : ffB a) : fdB (FP.f2d a) := by
  obtain ⟨s, n, h, hn⟩ := h
  refine ⟨s, _, ff_f2d h, ?_⟩
  rw [show 1137 = 212 + 925 by decide, Nat.pow_add]
  exact Nat.mul_le_mul_right _ hn
theorem d2f_B {a : UInt64} (h : fdB a) : ffB (FP.d2f a) := by
  obtain ⟨s, n, ha, hn⟩ := h
  have hnn := fd_isnan ha
  obtain ⟨c, q, h, hu⟩ := ha
  have f := fd_fits h
  have f1 := f.2.1
  obtain ⟨c', q', e, f', u⟩ := fq_bound (f := FP.Core.b32) (by decide) (s := s) (A := c) (b := 0) (T := 212) (e := q) (m0 := FP.Core.b64.qmin) (by rw [ff_qmin, fd_qmin]; omega) f1 (by
    rw [hu, ff_qmin, fd_qmin, show (-149 - -1074 : Int).toNat = 925 by decide]
    exact hn) (by decide) (by rw [ff_qmin, ff_qmax, ff_p]; decide)
  exact ⟨_, _, ff_mk (a := FP.d2f a) (d := FP.Core.round FP.Core.b32 (FP.Core.decode FP.Core.b64 a.toNat)) (by unfold FP.d2f; rw [hnn]; rfl) (by rw [h]; exact e) f' rfl, u⟩
theorem ddiv_B {a : UInt64} (h : fdB a) : fdB (FP.ddiv a 4611686018427387904) := by
  obtain ⟨s, n, ha, hn⟩ := h
  obtain ⟨c, q, h, hu⟩ := ha
  have f := fd_fits h
  have f1 := f.2.1
  obtain ⟨c', q', e, f', u⟩ := fq_bound (f := FP.Core.b64) (by decide) (s := s) (A := c) (b := 52) (T := 1137) (e := q - -51) (m0 := FP.Core.b64.qmin) (Int.le_refl _) (by omega) (by
    unfold FP.Core.inUnits at hu ⊢
    rw [show (q - -51 - FP.Core.b64.qmin).toNat = (q - FP.Core.b64.qmin).toNat + 51 by omega, Nat.pow_add, ← Nat.mul_assoc, hu, Int.sub_self]
    exact Nat.le_trans (Nat.mul_le_mul_right _ hn) (by rw [← Nat.pow_add]; exact Nat.pow_le_pow_right (by decide) (by decide))) (by decide) (by rw [fd_qmin, fd_qmax, fd_p]; decide)
  refine ⟨_, _, fd_mk (a := FP.ddiv a 4611686018427387904) (s := s) (d := FP.Core.quotient FP.Core.b64 (FP.Core.decode FP.Core.b64 a.toNat) (FP.Core.decode FP.Core.b64 (4611686018427387904 : UInt64).toNat)) rfl ?_ f' rfl, u⟩
  rw [h, fd_2]
  show (if (2 ^ 52 : Nat) = 0 then (if c = 0 then .nan else .inf (s != false)) else FP.Core.roundRatio FP.Core.b64 (s != false) c (2 ^ 52) (q - -51)) = _
  rw [if_neg (by decide), show (s != false) = s by cases s <;> rfl]
  exact e
theorem fdiv_B {a : UInt32} (h : ffB a) : ffB (FP.fdiv a FP.fconst2) := by
  obtain ⟨s, n, ha, hn⟩ := h
  obtain ⟨c, q, h, hu⟩ := ha
  have f := ff_fits h
  have f1 := f.2.1
  obtain ⟨c', q', e, f', u⟩ := fq_bound (f := FP.Core.b32) (by decide) (s := s) (A := c) (b := 23) (T := 212) (e := q - -22) (m0 := FP.Core.b32.qmin) (Int.le_refl _) (by omega) (by
    unfold FP.Core.inUnits at hu ⊢
    rw [show (q - -22 - FP.Core.b32.qmin).toNat = (q - FP.Core.b32.qmin).toNat + 22 by omega, Nat.pow_add, ← Nat.mul_assoc, hu, Int.sub_self]
    exact Nat.le_trans (Nat.mul_le_mul_right _ hn) (by rw [← Nat.pow_add]; exact Nat.pow_le_pow_right (by decide) (by decide))) (by decide) (by rw [ff_qmin, ff_qmax, ff_p]; decide)
  refine ⟨_, _, ff_mk (a := FP.fdiv a FP.fconst2) (s := s) (d := FP.Core.quotient FP.Core.b32 (FP.Core.decode FP.Core.b32 a.toNat) (FP.Core.decode FP.Core.b32 FP.fconst2.toNat)) rfl ?_ f' rfl, u⟩
  rw [h, ff_2]
  show (if (2 ^ 23 : Nat) = 0 then (if c = 0 then .nan else .inf (s != false)) else FP.Core.roundRatio FP.Core.b32 (s != false) c (2 ^ 23) (q - -22)) = _
  rw [if_neg (by decide), show (s != false) = s by cases s <;> rfl]
  exact e
theorem drem_B {a b : UInt64} (ha : fdB a) (hb : fdB b) (h0 : ¬ Op.cmpValue (FP.dcmp b FP.dconst0) .l = 0) : fdB (FP.drem a b) := by
  obtain ⟨s, n, ha, hn⟩ := ha
  obtain ⟨t, m, hb, hm⟩ := hb
  have hm0 : ¬ m = 0 := by
    intro e
    apply h0
    rw [fd_order hb fd_0, fq_eq, e]
    cases t <;> rfl
  exact ⟨s, _, fd_rem ha hb hm0, Nat.le_trans (Nat.mod_le _ _) hn⟩
theorem frem_B {a b : UInt32} (ha : ffB a) (hb : ffB b) (h0 : ¬ Op.cmpValue (FP.fcmp b FP.fconst0) .l = 0) : ffB (FP.frem a b) := by
  obtain ⟨s, n, ha, hn⟩ := ha
  obtain ⟨t, m, hb, hm⟩ := hb
  have hm0 : ¬ m = 0 := by
    intro e
    apply h0
    rw [ff_order hb ff_0, fq_eq, e]
    cases t <;> rfl
  exact ⟨s, _, ff_rem ha hb hm0, Nat.le_trans (Nat.mod_le _ _) hn⟩
