/-- a reference: nothing, or one of the first M things -/
def vr (M : Nat) (v : Int32) : Prop := ∃ n, n ≤ M ∧ v = nI n
theorem vr0 (M : Nat) : vr M 0 := ⟨0, Nat.zero_le _, rfl⟩
theorem vr_le {M N : Nat} {v : Int32} (h : vr M v) (hMN : M ≤ N) : vr N v := by obtain ⟨n, hn, e⟩ := h; exact ⟨n, by omega, e⟩
theorem vr_at {M : Nat} {v : Int32} (h : vr M v) (hM : M ≤ 60) (h0 : ¬ v = 0) : vp_in (v - 1) 60 ∧ aN (v - 1) < M ∧ v - 1 = nI (aN (v - 1)) := by
  obtain ⟨n, hn, rfl⟩ := h
  cases n with
  | zero => exact absurd rfl h0
  | succ n => rw [nI_pred, show aN (nI n) = n from nI_clamp (by omega)]; exact ⟨vp_in_nI (by omega) (by decide), by omega, rfl⟩
theorem vr_lt {M : Nat} {v : Int32} (h : vr M v) (hM : M ≤ 60) : ¬ v = 0 → aN (v - 1) < M := fun h0 => (vr_at h hM h0).2.1
def IT (a4 a5 a7 a8 : Nat → Int32) (a6 : Nat → Int32) (j2 : Nat → Int64) (M k : Nat) : Prop := vp_in (a4 k) 16 ∧ vp_in (a5 k) 13 ∧ (¬ pRow (a4 k) → a5 k = 0) ∧ (pRow (a4 k) → a7 k = 0) ∧ (¬ pKnot (a4 k) → j2 k = 0) ∧ (a4 k = 15 → ∃ j, 8 ≤ j ∧ j < 31 ∧ a7 k = nI j) ∧ vr M (a8 k) ∧ ∀ j, j < 12 → vr M (a6 (12 * k + j)) ∧ (a4 k = 10 → ¬ a6 (12 * k + j) = 0 → a4 (aN (a6 (12 * k + j) - 1)) = 4)
def I0 (i0 : Int32) (a0 : Nat → Int32) : Prop := ∃ mn, mn ≤ 150 ∧ i0 = nI mn ∧ ∀ k, k < mn → ∃ j, j < 74 ∧ a0 (4 * k) = nI j ∧ okStep j (a0 (4 * k + 1)) (a0 (4 * k + 2)) (a0 (4 * k + 3))
def I1 (i1 : Int32) (a1 : Nat → Int32) : Prop := ∃ hn, hn ≤ 16 ∧ i1 = nI hn ∧ ∀ k, k < hn → vp_in (a1 (4 * k + 3)) 200
def I9 (i3 i4 i0 : Int32) : Prop := i3 = 1 → ∃ p, i4 = nI p ∧ p < aN i0
/-- what holds of the numbers of both sides at every call -/
def INV (B M : Nat) (κ : KS) (th : Int32) : Prop := I0 (sI κ 0) (sA κ 0) ∧ I1 (sI κ 1) (sA κ 1) ∧ (M ≤ 60 ∧ sI κ 2 = nI M) ∧ (∀ j, vr M (sA κ 3 j)) ∧ (∀ k, k < M → IT (sA κ 4) (sA κ 5) (sA κ 7) (sA κ 8) (sA κ 6) (sJ κ 2) M k) ∧ FB κ ∧ (∃ n, n ≤ 12 ∧ sI κ 6 = nI n) ∧ (∀ i, vp_in (sA κ 9 i) 200) ∧ (∃ n, n ≤ B ∧ sI κ 7 = nI n) ∧ I9 (sI κ 3) (sI κ 4) (sI κ 0) ∧ vr M th ∧ (∀ i, vr 60 (sA κ 6 i)) ∧ ∀ i, vr 60 (sA κ 8 i)
section
variable {B M : Nat} {κ : KS} {th : Int32}
theorem INV.i0 (h : INV B M κ th) : I0 (sI κ 0) (sA κ 0) := h.1
theorem INV.i1 (h : INV B M κ th) : I1 (sI κ 1) (sA κ 1) := h.2.1
theorem INV.i2 (h : INV B M κ th) : sI κ 2 = nI M := h.2.2.1.2
theorem INV.m60 (h : INV B M κ th) : M ≤ 60 := h.2.2.1.1
theorem INV.i3 (h : INV B M κ th) : ∀ j, vr M (sA κ 3 j) := h.2.2.2.1
theorem INV.i4 (h : INV B M κ th) : ∀ k, k < M → IT (sA κ 4) (sA κ 5) (sA κ 7) (sA κ 8) (sA κ 6) (sJ κ 2) M k := h.2.2.2.2.1
theorem INV.i5 (h : INV B M κ th) : FB κ := h.2.2.2.2.2.1
theorem INV.i6 (h : INV B M κ th) : ∃ n, n ≤ 12 ∧ sI κ 6 = nI n := h.2.2.2.2.2.2.1
theorem INV.i7 (h : INV B M κ th) : ∀ i, vp_in (sA κ 9 i) 200 := h.2.2.2.2.2.2.2.1
theorem INV.i8 (h : INV B M κ th) : ∃ n, n ≤ B ∧ sI κ 7 = nI n := h.2.2.2.2.2.2.2.2.1
theorem INV.i9 (h : INV B M κ th) : I9 (sI κ 3) (sI κ 4) (sI κ 0) := h.2.2.2.2.2.2.2.2.2.1
theorem INV.it (h : INV B M κ th) : vr M th := h.2.2.2.2.2.2.2.2.2.2.1
theorem INV.i11 (h : INV B M κ th) : (∀ i, vr 60 (sA κ 6 i)) ∧ ∀ i, vr 60 (sA κ 8 i) := h.2.2.2.2.2.2.2.2.2.2.2
theorem INV.mN (h : INV B M κ th) : aN (sI κ 2) = M := by rw [h.i2]; exact nI_clamp (by have := h.m60; omega)
theorem INV.m61 (h : INV B M κ th) : vp_in (sI κ 2) 61 := by rw [h.i2]; exact vp_in_nI (by have := h.m60; omega) (by decide)
theorem INV.wfx (h : INV B M κ th) : WFx κ := by
  have hm := h.m60
  unfold WFx
  rw [h.mN]
  refine ⟨hm, fun x _ h0 => ?_, fun k hk => ?_, fun k hk => ?_, fun k j hk hj => ?_⟩
  · have z := vr_at (h.i3 _) hm h0; exact ⟨z.1, z.2.1⟩
  · have z := h.i4 k hk; exact ⟨z.1, z.2.1⟩
  · exact vr_lt (h.i4 k hk).2.2.2.2.2.2.1 hm
  · exact vr_lt ((h.i4 k hk).2.2.2.2.2.2.2 j hj).1 hm
theorem INV.wfa (h : INV B M κ th) {τ : TAU} (ht : τ.2.2.2 = rT th) : WFa κ τ (aN (sI κ 2)) := by
  have hm := h.m60
  rw [h.mN]
  refine ⟨fun j => vr_lt (h.i3 j) hm, fun k hk => vr_lt (h.i4 k hk).2.2.2.2.2.2.1 hm, fun k j hk hj => vr_lt ((h.i4 k hk).2.2.2.2.2.2.2 j hj).1 hm, fun r hr => ?_⟩
  rw [ht] at hr
  by_cases h0 : th = 0
  · rw [rT0 h0] at hr; cases hr
  · rw [rT1 h0] at hr; cases hr
    exact ⟨_, vr_lt h.it hm h0, rfl⟩
theorem INV.wfm (h : INV B M κ th) : WFm κ := by
  intro x _ h0
  have z := vr_at (h.i3 (aN x)) h.m60 h0
  exact ⟨z.1, (h.i4 _ z.2.1).2.1⟩
theorem INV.t7 (h : INV B M κ th) (hB : B < 2 ^ 31) : ¬ sI κ 7 < 0 := by
  obtain ⟨n, hn, e⟩ := h.i8
  rw [e]; exact nI_nn2 (by omega)
theorem INV.b (h : INV B M κ th) {B2 : Nat} (hB : B ≤ B2) : INV B2 M κ th := by
  obtain ⟨n, hn, e⟩ := h.i8
  exact ⟨h.i0, h.i1, ⟨h.m60, h.i2⟩, h.i3, h.i4, h.i5, h.i6, h.i7, ⟨n, by omega, e⟩, h.i9, h.it, h.i11⟩
theorem INV.A2 (h : INV B M κ th) (i : Nat) (v : Int32) : INV B M (uA κ 2 i v) th := h
theorem INV.A10 (h : INV B M κ th) (i : Nat) (v : Int32) : INV B M (uA κ 10 i v) th := h
theorem INV.J0 (h : INV B M κ th) (i : Nat) (v : Int64) : INV B M (uJ κ 0 i v) th := h
theorem INV.J1 (h : INV B M κ th) (i : Nat) (v : Int64) : INV B M (uJ κ 1 i v) th := h
theorem INV.I5 (h : INV B M κ th) (v : Int32) : INV B M (uI κ 5 v) th := h
theorem INV.I8 (h : INV B M κ th) (v : Int32) : INV B M (uI κ 8 v) th := h
theorem INV.I9 (h : INV B M κ th) (v : Int32) : INV B M (uI κ 9 v) th := h
theorem INV.I10 (h : INV B M κ th) (v : Int32) : INV B M (uI κ 10 v) th := h
theorem INV.A3 (h : INV B M κ th) (i : Nat) {v : Int32} (hv : vr M v) : INV B M (uA κ 3 i v) th := by
  refine ⟨h.i0, h.i1, ⟨h.m60, h.i2⟩, fun j => ?_, h.i4, h.i5, h.i6, h.i7, h.i8, h.i9, h.it, h.i11⟩
  rw [uA_same]
  by_cases e : j = i
  · rw [e, va_up_self]; exact hv
  · rw [va_up_ne _ _ e]; exact h.i3 j
theorem INV.F (h : INV B M κ th) (i : Nat) {v : UInt32} (hv : ffB v) : INV B M (uF κ i v) th := by
  refine ⟨h.i0, h.i1, ⟨h.m60, h.i2⟩, h.i3, h.i4, ⟨fun j => ?_, h.i5.2⟩, h.i6, h.i7, h.i8, h.i9, h.it, h.i11⟩
  show ffB (va_up (sF κ) i v j)
  by_cases e : j = i
  · rw [e, va_up_self]; exact hv
  · rw [va_up_ne _ _ e]; exact h.i5.1 j
theorem INV.D (h : INV B M κ th) (k i : Nat) {v : UInt64} (hv : fdB v) : INV B M (uD κ k i v) th := by
  refine ⟨h.i0, h.i1, ⟨h.m60, h.i2⟩, h.i3, h.i4, ⟨h.i5.1, fun k2 j => ?_⟩, h.i6, h.i7, h.i8, h.i9, h.it, h.i11⟩
  by_cases ek : k2 = k
  · rw [ek, uD_same]
    by_cases e : j = i
    · rw [e, va_up_self]; exact hv
    · rw [va_up_ne _ _ e]; exact h.i5.2 k j
  · rw [uD_ne _ _ _ ek]; exact h.i5.2 k2 j
theorem INV.I3 (h : INV B M κ th) {v : Int32} (hv : ¬ v = 1) : INV B M (uI κ 3 v) th := ⟨h.i0, h.i1, ⟨h.m60, h.i2⟩, h.i3, h.i4, h.i5, h.i6, h.i7, h.i8, fun e => absurd e hv, h.it, h.i11⟩
theorem INV.I6 (h : INV B M κ th) {n : Nat} (hn : n ≤ 12) : INV B M (uI κ 6 (nI n)) th := ⟨h.i0, h.i1, ⟨h.m60, h.i2⟩, h.i3, h.i4, h.i5, ⟨n, hn, rfl⟩, h.i7, h.i8, h.i9, h.it, h.i11⟩
theorem INV.A9 (h : INV B M κ th) (i : Nat) {v : Int32} (hv : vp_in v 200) : INV B M (uA κ 9 i v) th := by
  refine ⟨h.i0, h.i1, ⟨h.m60, h.i2⟩, h.i3, h.i4, h.i5, h.i6, fun j => ?_, h.i8, h.i9, h.it, h.i11⟩
  rw [uA_same]
  by_cases e : j = i
  · rw [e, va_up_self]; exact hv
  · rw [va_up_ne _ _ e]; exact h.i7 j
theorem INV.I7 (h : INV B M κ th) : INV (B + 1) M (uI κ 7 (sI κ 7 + 1)) th := by
  obtain ⟨n, hn, e⟩ := h.i8
  exact ⟨h.i0, h.i1, ⟨h.m60, h.i2⟩, h.i3, h.i4, h.i5, h.i6, h.i7, ⟨n + 1, by omega, by show sI κ 7 + 1 = _; rw [e, nI_1]⟩, h.i9, h.it, h.i11⟩
theorem INV.A6 (h : INV B M κ th) {k x : Nat} (hk : k < M) (hx : x < 12) {v : Int32} (hv : vr M v) (h10 : sA κ 4 k = 10 → ¬ v = 0 → sA κ 4 (aN (v - 1)) = 4) : INV B M (uA κ 6 (12 * k + x) v) th := by
  refine ⟨h.i0, h.i1, ⟨h.m60, h.i2⟩, h.i3, fun k2 hk2 => ?_, h.i5, h.i6, h.i7, h.i8, h.i9, h.it, fun i => ?_, h.i11.2⟩
  · obtain ⟨t1, t2, t3, t4, t5, t6, t7, t8⟩ := h.i4 k2 hk2
    refine ⟨t1, t2, t3, t4, t5, t6, t7, fun j hj => ?_⟩
    rw [uA_same]
    by_cases e : 12 * k2 + j = 12 * k + x
    · rw [e, va_up_self]
      obtain rfl : k2 = k := by omega
      exact ⟨hv, h10⟩
    · rw [va_up_ne _ _ e]; exact t8 j hj
  · rw [uA_same]
    by_cases e : i = 12 * k + x
    · rw [e, va_up_self]; exact vr_le hv h.m60
    · rw [va_up_ne _ _ e]; exact h.i11.1 i
theorem INV.A8 (h : INV B M κ th) (i : Nat) {v : Int32} (hv : vr M v) : INV B M (uA κ 8 i v) th := by
  refine ⟨h.i0, h.i1, ⟨h.m60, h.i2⟩, h.i3, fun k2 hk2 => ?_, h.i5, h.i6, h.i7, h.i8, h.i9, h.it, h.i11.1, fun j => ?_⟩
  · obtain ⟨t1, t2, t3, t4, t5, t6, t7, t8⟩ := h.i4 k2 hk2
    refine ⟨t1, t2, t3, t4, t5, t6, ?_, t8⟩
    rw [uA_same]
    by_cases e : k2 = i
    · rw [e, va_up_self]; exact hv
    · rw [va_up_ne _ _ e]; exact t7
  · rw [uA_same]
    by_cases e : j = i
    · rw [e, va_up_self]; exact vr_le hv h.m60
    · rw [va_up_ne _ _ e]; exact h.i11.2 j
theorem INV.A7 (h : INV B M κ th) (i : Nat) {v : Int32} (h1 : ¬ pRow (sA κ 4 i)) (h2 : ¬ sA κ 4 i = 15 ∨ ∃ j, 8 ≤ j ∧ j < 31 ∧ v = nI j) : INV B M (uA κ 7 i v) th := by
  refine ⟨h.i0, h.i1, ⟨h.m60, h.i2⟩, h.i3, fun k2 hk2 => ?_, h.i5, h.i6, h.i7, h.i8, h.i9, h.it, h.i11⟩
  obtain ⟨t1, t2, t3, t4, t5, t6, t7, t8⟩ := h.i4 k2 hk2
  refine ⟨t1, t2, t3, ?_, t5, ?_, t7, t8⟩
  · rw [uA_same]
    by_cases e : k2 = i
    · rw [e]; exact fun hr => absurd hr h1
    · rw [va_up_ne _ _ e]; exact t4
  · rw [uA_same]
    by_cases e : k2 = i
    · rw [e, va_up_self]
      intro hr
      rcases h2 with h2 | h2
      · exact absurd hr h2
      · exact h2
    · rw [va_up_ne _ _ e]; exact t6
theorem INV.J2 (h : INV B M κ th) (i : Nat) (v : Int64) (h1 : pKnot (sA κ 4 i)) : INV B M (uJ κ 2 i v) th := by
  refine ⟨h.i0, h.i1, ⟨h.m60, h.i2⟩, h.i3, fun k2 hk2 => ?_, h.i5, h.i6, h.i7, h.i8, h.i9, h.it, h.i11⟩
  obtain ⟨t1, t2, t3, t4, t5, t6, t7, t8⟩ := h.i4 k2 hk2
  refine ⟨t1, t2, t3, t4, ?_, t6, t7, t8⟩
  rw [uJ_same]
  by_cases e : k2 = i
  · rw [e]; exact fun hr => absurd h1 hr
  · rw [va_up_ne _ _ e]; exact t5
theorem IT_mono {a4 a5 a7 a8 a6 : Nat → Int32} {j2 : Nat → Int64} {M N k : Nat} (h : IT a4 a5 a7 a8 a6 j2 M k) (hN : M ≤ N) : IT a4 a5 a7 a8 a6 j2 N k := by
  obtain ⟨t1, t2, t3, t4, t5, t6, t7, t8⟩ := h
  exact ⟨t1, t2, t3, t4, t5, t6, vr_le t7 hN, fun j hj => ⟨vr_le (t8 j hj).1 hN, (t8 j hj).2⟩⟩
theorem mk_Dj (κ : KS) (kd pl : Int32) {k : Nat} (h : k ≠ 1) : sD (mk κ kd pl) k = sD κ k := by
  unfold mk
  rw [uI_D, uA_D, uJ_D, uA_D, zl_D _ _ h, uA_D, uA_D]
end
section
variable {B M : Nat} {κ : KS} {th : Int32}
theorem uA_id (κ : KS) {k i : Nat} {v : Int32} (h : sA κ k i = v) : uA κ k i v = κ := by
  subst h
  unfold uA
  have e1 : va_up (sA κ k) i (sA κ k i) = sA κ k := by
    funext j
    by_cases e : j = i
    · rw [e, va_up_self]
    · rw [va_up_ne _ _ e]
  have e2 : va_up κ.2.1 k (κ.2.1 k) = κ.2.1 := by
    funext j
    by_cases e : j = k
    · rw [e, va_up_self]
    · rw [va_up_ne _ _ e]
  show (κ.1, va_up κ.2.1 k (va_up (sA κ k) i (sA κ k i)), κ.2.2) = κ
  rw [e1]
  show (κ.1, va_up κ.2.1 k (κ.2.1 k), κ.2.2) = κ
  rw [e2]
theorem INV.mkt (h : INV B M κ th) (hM : M < 60) {kd pl : Int32} (hkd : vp_in kd 16) (hpl : vp_in pl 13) (hr : ¬ pRow kd → pl = 0) {tg : Int32} (h0 : pRow kd → tg = 0) (h15 : kd = 15 → ∃ j, 8 ≤ j ∧ j < 31 ∧ tg = nI j) : INV B (M + 1) (uA (mk κ kd pl) 7 M tg) th := by
  have hs := h.i2
  have hI := mk_I κ kd pl
  have e0 : sI (mk κ kd pl) 0 = sI κ 0 := by rw [hI]; exact va_up_ne _ _ (by decide)
  have e1 : sI (mk κ kd pl) 1 = sI κ 1 := by rw [hI]; exact va_up_ne _ _ (by decide)
  have e3 : sI (mk κ kd pl) 3 = sI κ 3 := by rw [hI]; exact va_up_ne _ _ (by decide)
  have e4 : sI (mk κ kd pl) 4 = sI κ 4 := by rw [hI]; exact va_up_ne _ _ (by decide)
  have e6 : sI (mk κ kd pl) 6 = sI κ 6 := by rw [hI]; exact va_up_ne _ _ (by decide)
  have e7 : sI (mk κ kd pl) 7 = sI κ 7 := by rw [hI]; exact va_up_ne _ _ (by decide)
  unfold INV
  rw [uA_I, uA_J, uA_same, uA_ne _ _ _ (show (0 : Nat) ≠ 7 by decide), uA_ne _ _ _ (show (1 : Nat) ≠ 7 by decide), uA_ne _ _ _ (show (3 : Nat) ≠ 7 by decide), uA_ne _ _ _ (show (4 : Nat) ≠ 7 by decide), uA_ne _ _ _ (show (5 : Nat) ≠ 7 by decide), uA_ne _ _ _ (show (6 : Nat) ≠ 7 by decide), uA_ne _ _ _ (show (8 : Nat) ≠ 7 by decide), uA_ne _ _ _ (show (9 : Nat) ≠ 7 by decide)]
  rw [e0, e1, e3, e4, e6, e7, mk_A κ kd pl (k := 0) (by decide), mk_A κ kd pl (k := 1) (by decide), mk_A κ kd pl (k := 3) (by decide), mk_A κ kd pl (k := 9) (by decide), mk_made, mk_A4 hs hM, mk_A5 hs hM, mk_A7 hs hM, upup, mk_A8 hs hM, mk_J2 hs hM]
  refine ⟨h.i0, h.i1, ⟨by omega, by rw [hs, nI_1]⟩, fun j => vr_le (h.i3 j) (by omega), fun k hk => ?_, ⟨fun i => ?_, fun j i => ?_⟩, h.i6, h.i7, h.i8, h.i9, vr_le h.it (by omega), fun i => ?_, fun i => ?_⟩
  · by_cases e : k = M
    · subst e
      unfold IT
      rw [va_up_self, va_up_self, va_up_self, va_up_self, va_up_self]
      refine ⟨hkd, hpl, hr, h0, fun _ => rfl, h15, vr0 _, fun j hj => ?_⟩
      rw [mk_A6 hs hM, if_pos (by omega)]
      exact ⟨vr0 _, fun _ hn => absurd rfl hn⟩
    · have hk2 : k < M := by omega
      obtain ⟨t1, t2, t3, t4, t5, t6, t7, t8⟩ := h.i4 k hk2
      unfold IT
      rw [va_up_ne _ _ e, va_up_ne _ _ e, va_up_ne _ _ e, va_up_ne _ _ e, va_up_ne _ _ e]
      refine ⟨t1, t2, t3, t4, t5, t6, vr_le t7 (by omega), fun j hj => ?_⟩
      rw [mk_A6 hs hM, if_neg (by omega)]
      refine ⟨vr_le (t8 j hj).1 (by omega), fun h1 h2 => ?_⟩
      have hlt := vr_lt (t8 j hj).1 h.m60 h2
      rw [va_up_ne _ _ (by omega)]
      exact (t8 j hj).2 h1 h2
  · rw [uA_F, mk_F]; exact h.i5.1 i
  · rw [uA_D]
    by_cases ej : j = 1
    · rw [ej, mk_D1 hs hM]
      split
      · exact fdB_0
      · exact h.i5.2 1 i
    · rw [mk_Dj κ kd pl ej]; exact h.i5.2 j i
  · rw [mk_A6 hs hM]
    split
    · exact vr0 _
    · exact h.i11.1 i
  · by_cases e : i = M
    · rw [e, va_up_self]; exact vr0 _
    · rw [va_up_ne _ _ e]; exact h.i11.2 i
theorem INV.mkn (h : INV B M κ th) (hM : M < 60) {kd pl : Int32} (hkd : vp_in kd 16) (hpl : vp_in pl 13) (hr : ¬ pRow kd → pl = 0) (h15 : ¬ kd = 15) : INV B (M + 1) (mk κ kd pl) th := by
  have z := h.mkt hM hkd hpl hr (tg := 0) (fun _ => rfl) (fun e => absurd e h15)
  rw [uA_id (mk κ kd pl) (by rw [mk_A7 h.i2 hM, va_up_self])] at z
  exact z
theorem vrN {M : Nat} (h : sI κ 2 = nI M) : vr (M + 1) (sI κ 2 + 1) := ⟨M + 1, Nat.le_refl _, by rw [h, nI_1]⟩
theorem INV.mkRn (g pl : Int32) (hpl : vp_in pl 13) {G : Nat} (hg : g = nI G) : ∀ (n : Nat) {M : Nat} {κ : KS}, INV B M κ th → M + n ≤ 60 → n ≤ 12 → G < M → INV B (M + n) (mkR κ g pl n) th
  | 0, M, κ, h, _, _, _ => h
  | n + 1, M, κ, h, hM, hn, hG => by
    have ih := INV.mkRn g pl hpl hg n h (by omega) (by omega) hG
    have z := ih.mkn (show M + n < 60 by omega) (kd := 4) (pl := pl) (vp_in_nI (n := 4) (by decide) (by decide)) hpl (fun h => absurd (by decide) h) (by decide)
    have h4 := mk_A4 ih.i2 (show M + n < 60 by omega) 4 pl
    have hv := vrN ih.i2
    have he := ih.i2
    rw [mkR_s]
    generalize mkR κ g pl n = K at *
    rw [show aN (12 * g + nI n) = 12 * G + n by rw [hg]; exact zl_i (by omega) (by omega)]
    generalize mk K 4 pl = K2 at *
    refine z.A6 (show G < M + n + 1 by omega) (by omega) hv (fun _ _ => ?_)
    rw [h4, ix1, he, show aN (nI (M + n)) = M + n from nI_clamp (by omega), va_up_self]
theorem knot11 {o : Int32} (h : pOf o 11) : pKnot o := by
  rcases h with h | ⟨h, _⟩ | ⟨_, h⟩ | ⟨h, _⟩ | ⟨h, _⟩
  · exact Or.inl h
  · exact absurd h (by decide)
  · rcases h with h | h
    · exact Or.inr (Or.inl h)
    · exact Or.inr (Or.inr h)
  · exact absurd h (by decide)
  · exact absurd h (by decide)
theorem of4 {o : Int32} (h : pOf o 4) : o = 4 := by
  rcases h with h | ⟨h, _⟩ | ⟨h, _⟩ | ⟨h, _⟩ | ⟨h, _⟩
  · exact h
  all_goals exact absurd h (by decide)
theorem of8 {o : Int32} (h : pOf o 8) : ¬ o = 10 := by
  rcases h with h | ⟨_, h⟩ | ⟨h, _⟩ | ⟨h, _⟩ | ⟨h, _⟩
  · rw [h]; decide
  · rw [h]; decide
  all_goals exact absurd h (by decide)
theorem knotR {o : Int32} (h : pKnot o) : ¬ pRow o ∧ ¬ o = 15 := by
  rcases h with h | h | h <;> (rw [h]; decide)
theorem kd11 {x : Int32} (h : vp_in (x - 11) 4) : vp_in x 16 ∧ ¬ pRow x ∧ ¬ x = 15 := by
  obtain ⟨n, hn, e⟩ := vp_in_of h (by decide)
  have hx : x = nI n + 11 := by
    rw [← e]
    apply Int32.toBitVec_inj.mp
    simp
  rw [hx, show (11 : Int32) = nI 11 from rfl, nI_add]
  match n, hn with
  | 0, _ => exact ⟨vp_in_nI (by decide) (by decide), by decide, by decide⟩
  | 1, _ => exact ⟨vp_in_nI (by decide) (by decide), by decide, by decide⟩
  | 2, _ => exact ⟨vp_in_nI (by decide) (by decide), by decide, by decide⟩
  | 3, _ => exact ⟨vp_in_nI (by decide) (by decide), by decide, by decide⟩
  | n + 4, h => exact absurd h (by omega)
theorem kd10 {x : Int32} (h : vp_in x 10) : vp_in x 16 ∧ pRow x ∧ ¬ x = 15 := by
  obtain ⟨n, hn, rfl⟩ := vp_in_of h (by decide)
  match n, hn with
  | 0, _ => exact ⟨vp_in_nI (by decide) (by decide), by decide, by decide⟩
  | 1, _ => exact ⟨vp_in_nI (by decide) (by decide), by decide, by decide⟩
  | 2, _ => exact ⟨vp_in_nI (by decide) (by decide), by decide, by decide⟩
  | 3, _ => exact ⟨vp_in_nI (by decide) (by decide), by decide, by decide⟩
  | 4, _ => exact ⟨vp_in_nI (by decide) (by decide), by decide, by decide⟩
  | 5, _ => exact ⟨vp_in_nI (by decide) (by decide), by decide, by decide⟩
  | 6, _ => exact ⟨vp_in_nI (by decide) (by decide), by decide, by decide⟩
  | 7, _ => exact ⟨vp_in_nI (by decide) (by decide), by decide, by decide⟩
  | 8, _ => exact ⟨vp_in_nI (by decide) (by decide), by decide, by decide⟩
  | 9, _ => exact ⟨vp_in_nI (by decide) (by decide), by decide, by decide⟩
  | n + 10, h => exact absurd h (by omega)
theorem tag8 (w : Int32) : ∃ j, 8 ≤ j ∧ j < 31 ∧ 8 + (w &&& 15) = nI j := by
  have hb : (w &&& 15).toBitVec.toNat < 16 := by
    rw [show (w &&& 15).toBitVec = w.toBitVec &&& 15#32 from rfl, BitVec.toNat_and]
    exact Nat.lt_of_le_of_lt Nat.and_le_right (by decide)
  refine ⟨8 + (w &&& 15).toBitVec.toNat, by omega, by omega, ?_⟩
  rw [← nI_add]
  have e : w &&& 15 = nI (w &&& 15).toBitVec.toNat := by
    apply Int32.toBitVec_inj.mp
    show (w &&& 15).toBitVec = BitVec.ofNat 32 (w &&& 15).toBitVec.toNat
    rw [BitVec.ofNat_toNat, BitVec.setWidth_eq]
  exact congrArg (fun z => (8 : Int32) + z) e
theorem INV.reg (h : INV B M κ th) {x : Int32} (h0 : ¬ sA κ 3 (aN x) = 0) : vp_in (sA κ 3 (aN x) - 1) 60 ∧ aN (sA κ 3 (aN x) - 1) < M := by
  have z := vr_at (h.i3 (aN x)) h.m60 h0
  exact ⟨z.1, z.2.1⟩
theorem INV.row (h : INV B M κ th) {x w : Int32} (h0 : ¬ sA κ 3 (aN x) = 0) (hw : pIn w 0 (sA κ 5 (aN (sA κ 3 (aN x) - 1)) - 1)) : ∃ k j, k < M ∧ j < 12 ∧ k = aN (sA κ 3 (aN x) - 1) ∧ aN (12 * (sA κ 3 (aN x) - 1) + w) = 12 * k + j := by
  have z := h.reg h0
  have y := ixN z.1 hw (h.i4 _ z.2).2.1
  exact ⟨_, _, z.2, y.2.1, rfl, y.1⟩
end
