/-! a new thing in the class's world -/
theorem uA_I (κ : KS) (k i : Nat) (v : Int32) : sI (uA κ k i v) = sI κ := rfl
theorem uJ_I (κ : KS) (k i : Nat) (v : Int64) : sI (uJ κ k i v) = sI κ := rfl
theorem uD_I (κ : KS) (k i : Nat) (v : UInt64) : sI (uD κ k i v) = sI κ := rfl
theorem uF_I (κ : KS) (i : Nat) (v : UInt32) : sI (uF κ i v) = sI κ := rfl
theorem uI_v (κ : KS) (k : Nat) (v : Int32) : sI (uI κ k v) = va_up (sI κ) k v := rfl
theorem uA_J (κ : KS) (k i : Nat) (v : Int32) : sJ (uA κ k i v) = sJ κ := rfl
theorem uD_J (κ : KS) (k i : Nat) (v : UInt64) : sJ (uD κ k i v) = sJ κ := rfl
theorem uF_J (κ : KS) (i : Nat) (v : UInt32) : sJ (uF κ i v) = sJ κ := rfl
theorem uI_J (κ : KS) (k : Nat) (v : Int32) : sJ (uI κ k v) = sJ κ := rfl
theorem uA_D (κ : KS) (k i : Nat) (v : Int32) : sD (uA κ k i v) = sD κ := rfl
theorem uJ_D (κ : KS) (k i : Nat) (v : Int64) : sD (uJ κ k i v) = sD κ := rfl
theorem uF_D (κ : KS) (i : Nat) (v : UInt32) : sD (uF κ i v) = sD κ := rfl
theorem uI_D (κ : KS) (k : Nat) (v : Int32) : sD (uI κ k v) = sD κ := rfl
theorem uA_F (κ : KS) (k i : Nat) (v : Int32) : sF (uA κ k i v) = sF κ := rfl
theorem uJ_F (κ : KS) (k i : Nat) (v : Int64) : sF (uJ κ k i v) = sF κ := rfl
theorem uD_F (κ : KS) (k i : Nat) (v : UInt64) : sF (uD κ k i v) = sF κ := rfl
theorem uI_F (κ : KS) (k : Nat) (v : Int32) : sF (uI κ k v) = sF κ := rfl
theorem uJ_same (κ : KS) (k i : Nat) (v : Int64) : sJ (uJ κ k i v) k = va_up (sJ κ k) i v := by simp [sJ, uJ, va_up]
theorem uJ_ne (κ : KS) {k k' : Nat} (i : Nat) (v : Int64) (h : k' ≠ k) : sJ (uJ κ k i v) k' = sJ κ k' := by simp [sJ, uJ, va_up, h]
theorem uD_same (κ : KS) (k i : Nat) (v : UInt64) : sD (uD κ k i v) k = va_up (sD κ k) i v := by simp [sD, uD, va_up]
theorem uD_ne (κ : KS) {k k' : Nat} (i : Nat) (v : UInt64) (h : k' ≠ k) : sD (uD κ k i v) k' = sD κ k' := by simp [sD, uD, va_up, h]
theorem uA_comm (κ : KS) {k k' : Nat} (i j : Nat) (v w : Int32) (h : k ≠ k') : uA (uA κ k i v) k' j w = uA (uA κ k' j w) k i v := by
  have e : va_up (va_up κ.2.1 k (va_up (κ.2.1 k) i v)) k' (va_up (va_up κ.2.1 k (va_up (κ.2.1 k) i v) k') j w) = va_up (va_up κ.2.1 k' (va_up (κ.2.1 k') j w)) k (va_up (va_up κ.2.1 k' (va_up (κ.2.1 k') j w) k) i v) := by
    rw [va_up_ne _ _ (Ne.symm h), va_up_ne _ _ h]
    funext z
    by_cases h1 : z = k
    · subst h1; rw [va_up_ne _ _ h, va_up_self, va_up_self]
    · by_cases h2 : z = k'
      · subst h2; rw [va_up_self, va_up_ne _ _ h1, va_up_self]
      · rw [va_up_ne _ _ h2, va_up_ne _ _ h1, va_up_ne _ _ h1, va_up_ne _ _ h2]
  show (κ.1, _, κ.2.2) = (κ.1, _, κ.2.2)
  exact congrArg (fun z => (κ.1, z, κ.2.2)) e
theorem zl_I (x : Int32) (κ : KS) : ∀ n, sI (zl x κ n) = sI κ
  | 0 => rfl
  | n + 1 => by unfold zl; rw [uA_I, uD_I, uJ_I]; exact zl_I x κ n
theorem zl_F (x : Int32) (κ : KS) : ∀ n, sF (zl x κ n) = sF κ
  | 0 => rfl
  | n + 1 => by unfold zl; rw [uA_F, uD_F, uJ_F]; exact zl_F x κ n
theorem zl_J (x : Int32) (κ : KS) {k : Nat} (h : k ≠ 1) : ∀ n, sJ (zl x κ n) k = sJ κ k
  | 0 => rfl
  | n + 1 => by unfold zl; rw [uA_J, uD_J, uJ_ne _ _ _ h]; exact zl_J x κ h n
theorem zl_D (x : Int32) (κ : KS) {k : Nat} (h : k ≠ 1) : ∀ n, sD (zl x κ n) k = sD κ k
  | 0 => rfl
  | n + 1 => by unfold zl; rw [uA_D, uD_ne _ _ _ h, uJ_D]; exact zl_D x κ h n
theorem zl_i {M : Nat} (hM : M < 60) {j : Nat} (hj : j < 12) : aN (12 * nI M + nI j) = 12 * M + j := by
  rw [show (12 : Int32) = nI 12 from rfl, pk_mul, nI_add]
  exact nI_clamp (by omega)
theorem if_grow {α : Type} {M n i : Nat} (h : ¬ i = 12 * M + n) (x y : α) : (if 12 * M ≤ i ∧ i < 12 * M + n then x else y) = if 12 * M ≤ i ∧ i < 12 * M + (n + 1) then x else y := by
  by_cases hc : 12 * M ≤ i ∧ i < 12 * M + n
  · rw [if_pos hc, if_pos ⟨hc.1, by omega⟩]
  · rw [if_neg hc, if_neg (fun q => hc ⟨q.1, by omega⟩)]
theorem zl_J1 {M : Nat} (hM : M < 60) (κ : KS) : ∀ n, n ≤ 12 → ∀ i, sJ (zl (nI M) κ n) 1 i = if 12 * M ≤ i ∧ i < 12 * M + n then 0 else sJ κ 1 i
  | 0, _, i => by rw [if_neg (by omega)]; rfl
  | n + 1, hn, i => by
    unfold zl
    rw [uA_J, uD_J, uJ_same, zl_i hM (by omega)]
    by_cases h : i = 12 * M + n
    · subst h; rw [va_up_self, if_pos (by omega)]
    · rw [va_up_ne _ _ h, zl_J1 hM κ n (by omega) i]; exact if_grow h _ _
theorem zl_D1 {M : Nat} (hM : M < 60) (κ : KS) : ∀ n, n ≤ 12 → ∀ i, sD (zl (nI M) κ n) 1 i = if 12 * M ≤ i ∧ i < 12 * M + n then FP.dconst0 else sD κ 1 i
  | 0, _, i => by rw [if_neg (by omega)]; rfl
  | n + 1, hn, i => by
    unfold zl
    rw [uA_D, uD_same, zl_i hM (by omega), uJ_D]
    by_cases h : i = 12 * M + n
    · subst h; rw [va_up_self, if_pos (by omega)]
    · rw [va_up_ne _ _ h, zl_D1 hM κ n (by omega) i]; exact if_grow h _ _
theorem zl_A6 {M : Nat} (hM : M < 60) (κ : KS) : ∀ n, n ≤ 12 → ∀ i, sA (zl (nI M) κ n) 6 i = if 12 * M ≤ i ∧ i < 12 * M + n then 0 else sA κ 6 i
  | 0, _, i => by rw [if_neg (by omega)]; rfl
  | n + 1, hn, i => by
    unfold zl
    rw [uA_same, zl_i hM (by omega), uD_A, uJ_A]
    by_cases h : i = 12 * M + n
    · subst h; rw [va_up_self, if_pos (by omega)]
    · rw [va_up_ne _ _ h, zl_A6 hM κ n (by omega) i]; exact if_grow h _ _
theorem mk_I (κ : KS) (kd pl : Int32) : sI (mk κ kd pl) = va_up (sI κ) 2 (sI κ 2 + 1) := by
  unfold mk
  rw [uI_v, uA_I, uJ_I, uA_I, zl_I, uA_I, uA_I]
theorem mk_F (κ : KS) (kd pl : Int32) : sF (mk κ kd pl) = sF κ := by
  unfold mk
  rw [uI_F, uA_F, uJ_F, uA_F, zl_F, uA_F, uA_F]
theorem mk_J0 (κ : KS) (kd pl : Int32) : sJ (mk κ kd pl) 0 = sJ κ 0 := by
  unfold mk
  rw [uI_J, uA_J, uJ_ne _ _ _ (by decide), uA_J, zl_J _ _ (by decide), uA_J, uA_J]
theorem mk_D0 (κ : KS) (kd pl : Int32) : sD (mk κ kd pl) 0 = sD κ 0 := by
  unfold mk
  rw [uI_D, uA_D, uJ_D, uA_D, zl_D _ _ (by decide), uA_D, uA_D]
theorem mk_A (κ : KS) (kd pl : Int32) {k : Nat} (h : k ≠ 4 ∧ k ≠ 5 ∧ k ≠ 6 ∧ k ≠ 7 ∧ k ≠ 8) : sA (mk κ kd pl) k = sA κ k := by
  unfold mk
  rw [uI_A, uA_ne _ _ _ h.2.2.2.2, uJ_A, uA_ne _ _ _ h.2.2.2.1, zl_A _ _ h.2.2.1, uA_ne _ _ _ h.2.1, uA_ne _ _ _ h.1]
theorem mk_c {κ : KS} {M : Nat} (hM : sI κ 2 = nI M) (h60 : M < 60) : aN (sI κ 2) = M := by rw [hM]; exact nI_clamp (by omega)
theorem mk_A4 {κ : KS} {M : Nat} (hM : sI κ 2 = nI M) (h60 : M < 60) (kd pl : Int32) : sA (mk κ kd pl) 4 = va_up (sA κ 4) M kd := by
  unfold mk
  rw [uI_A, uA_ne _ _ _ (by decide), uJ_A, uA_ne _ _ _ (by decide), zl_A _ _ (by decide), uA_ne _ _ _ (by decide), uA_same, mk_c hM h60]
theorem mk_A5 {κ : KS} {M : Nat} (hM : sI κ 2 = nI M) (h60 : M < 60) (kd pl : Int32) : sA (mk κ kd pl) 5 = va_up (sA κ 5) M pl := by
  unfold mk
  rw [uI_A, uA_ne _ _ _ (by decide), uJ_A, uA_ne _ _ _ (by decide), zl_A _ _ (by decide), uA_same, uA_ne _ _ _ (by decide), mk_c hM h60]
theorem mk_A7 {κ : KS} {M : Nat} (hM : sI κ 2 = nI M) (h60 : M < 60) (kd pl : Int32) : sA (mk κ kd pl) 7 = va_up (sA κ 7) M 0 := by
  unfold mk
  rw [uI_A, uA_ne _ _ _ (by decide), uJ_A, uA_same, zl_A _ _ (by decide), uA_ne _ _ _ (by decide), uA_ne _ _ _ (by decide), mk_c hM h60]
theorem mk_A8 {κ : KS} {M : Nat} (hM : sI κ 2 = nI M) (h60 : M < 60) (kd pl : Int32) : sA (mk κ kd pl) 8 = va_up (sA κ 8) M 0 := by
  unfold mk
  rw [uI_A, uA_same, uJ_A, uA_ne _ _ _ (by decide), zl_A _ _ (by decide), uA_ne _ _ _ (by decide), uA_ne _ _ _ (by decide), mk_c hM h60]
theorem mk_J2 {κ : KS} {M : Nat} (hM : sI κ 2 = nI M) (h60 : M < 60) (kd pl : Int32) : sJ (mk κ kd pl) 2 = va_up (sJ κ 2) M 0 := by
  unfold mk
  rw [uI_J, uA_J, uJ_same, uA_J, zl_J _ _ (by decide), uA_J, uA_J, mk_c hM h60]
theorem mk_J1 {κ : KS} {M : Nat} (hM : sI κ 2 = nI M) (h60 : M < 60) (kd pl : Int32) (i : Nat) : sJ (mk κ kd pl) 1 i = if 12 * M ≤ i ∧ i < 12 * M + 12 then 0 else sJ κ 1 i := by
  unfold mk
  rw [uI_J, uA_J, uJ_ne _ _ _ (by decide), uA_J, hM, zl_J1 h60 _ 12 (by decide), uA_J, uA_J]
theorem mk_D1 {κ : KS} {M : Nat} (hM : sI κ 2 = nI M) (h60 : M < 60) (kd pl : Int32) (i : Nat) : sD (mk κ kd pl) 1 i = if 12 * M ≤ i ∧ i < 12 * M + 12 then FP.dconst0 else sD κ 1 i := by
  unfold mk
  rw [uI_D, uA_D, uJ_D, uA_D, hM, zl_D1 h60 _ 12 (by decide), uA_D, uA_D]
theorem mk_A6 {κ : KS} {M : Nat} (hM : sI κ 2 = nI M) (h60 : M < 60) (kd pl : Int32) (i : Nat) : sA (mk κ kd pl) 6 i = if 12 * M ≤ i ∧ i < 12 * M + 12 then 0 else sA κ 6 i := by
  unfold mk
  rw [uI_A, uA_ne _ _ _ (by decide), uJ_A, uA_ne _ _ _ (by decide), hM, zl_A6 h60 _ 12 (by decide), uA_ne _ _ _ (by decide), uA_ne _ _ _ (by decide)]
/-- a new thing, number M; the number of things made stands as it was -/
def nw (κ : KS) (M : Nat) (kd pl : Int32) : KS := uI (mk (uI κ 2 (nI M)) kd pl) 2 (sI κ 2)
theorem nw_I (κ : KS) (M : Nat) (kd pl : Int32) : sI (nw κ M kd pl) = sI κ := by
  unfold nw
  rw [uI_v, mk_I, uI_v, upup, upup, upt]
theorem nw_mk {κ : KS} {M : Nat} (hM : sI κ 2 = nI M) (kd pl : Int32) : nw (uI κ 2 (sI κ 2 + 1)) M kd pl = mk κ kd pl := by
  unfold nw
  rw [uI_uI, ← hM, uI_same]
  have e : sI (mk κ kd pl) 2 = sI κ 2 + 1 := mk_made κ kd pl
  rw [show sI (uI κ 2 (sI κ 2 + 1)) 2 = sI κ 2 + 1 from rfl, ← e, uI_same]
/-- the world with M things -/
def lvV (κ : KS) (M : Nat) : Nat → Prop := fun i => i < 15 ∨ (100 ≤ i ∧ i < 100 + 4 * M) ∨ (400 ≤ i ∧ i < 400 + aN (sI κ 0)) ∨ (600 ≤ i ∧ i < 600 + aN (sI κ 1))
def wV (q : Nat → ClassId) (ad : Nat → Nat) (κ : KS) (τ : TAU) (M : Nat) : wT := (ad, lvV κ M, exX q ad κ τ)
theorem wVX {q : Nat → ClassId} {ad : Nat → Nat} {κ : KS} {τ : TAU} {M : Nat} (h : aN (sI κ 2) = M) : wV q ad κ τ M = wX q ad κ τ := by subst h; rfl
/-- all that the world refers to is there -/
def WFa (κ : KS) (τ : TAU) (M : Nat) : Prop := (∀ j, ¬ sA κ 3 j = 0 → aN (sA κ 3 j - 1) < M) ∧ (∀ k, k < M → ¬ sA κ 8 k = 0 → aN (sA κ 8 k - 1) < M) ∧ (∀ k j, k < M → j < 12 → ¬ sA κ 6 (12 * k + j) = 0 → aN (sA κ 6 (12 * k + j) - 1) < M) ∧ ∀ r, τ.2.2.2 = some r → ∃ k, k < M ∧ r = 100 + 4 * k
theorem mapT {ad ad2 : Nat → Nat} {M : Nat} (hag : ∀ k, k < M → ad2 (100 + 4 * k) = ad (100 + 4 * k)) {v : Int32} (hv : ¬ v = 0 → aN (v - 1) < M) : (rT v).map ad2 = (rT v).map ad := by
  by_cases h : v = 0
  · rw [rT0 h]; rfl
  · rw [rT1 h]; exact congrArg some (hag _ (hv h))
theorem exG_cg {q : Nat → ClassId} {ad ad2 : Nat → Nat} {κ κ' : KS} {i : Nat} (h : ¬ i < 400) (h0 : sA κ' 0 = sA κ 0) (h1 : sA κ' 1 = sA κ 1) : exG q ad2 κ' i = exG q ad κ i := by
  unfold exG; rw [if_neg h, if_neg h, h0, h1]
theorem exF_cg {q : Nat → ClassId} {ad : Nat → Nat} {κ κ' : KS} {τ : TAU} (hI : sI κ' = sI κ) (h2 : sA κ' 2 = sA κ 2) (h3 : sA κ' 3 = sA κ 3) (h9 : sA κ' 9 = sA κ 9) (h10 : sA κ' 10 = sA κ 10) (hJ : sJ κ' 0 = sJ κ 0) (hF : sF κ' = sF κ) (hD : sD κ' 0 = sD κ 0) : exF q ad κ' τ = exF q ad κ τ := by
  unfold exF; rw [hI, h2, h3, h9, h10, hJ, hF, hD]
theorem exF_ad {q : Nat → ClassId} {ad ad2 : Nat → Nat} {κ : KS} {τ : TAU} {M : Nat} (hag : ∀ i, lvV κ M i → ad2 i = ad i) (hW : WFa κ τ M) : ∀ i, i < 15 → exF q ad2 κ τ i = exF q ad κ τ i := by
  have a : ∀ i, i < 15 → ad2 i = ad i := fun i h => hag i (Or.inl h)
  have hT : ∀ k, k < M → ad2 (100 + 4 * k) = ad (100 + 4 * k) := fun k h => hag _ (Or.inr (Or.inl ⟨by omega, by omega⟩))
  have h12 : (fun j => (rT (sA κ 3 j)).map ad2) = fun j => (rT (sA κ 3 j)).map ad := funext fun j => mapT hT (hW.1 j)
  have hth : τ.2.2.2.map ad2 = τ.2.2.2.map ad := by
    cases hr : τ.2.2.2 with
    | none => rfl
    | some r =>
      obtain ⟨k, hk, rfl⟩ := hW.2.2.2 r hr
      exact congrArg some (hT k hk)
  have a1 := a 1 (by decide)
  have a2 := a 2 (by decide)
  have a3 := a 3 (by decide)
  have a4 := a 4 (by decide)
  have a5 := a 5 (by decide)
  have a6 := a 6 (by decide)
  have a7 := a 7 (by decide)
  have a8 := a 8 (by decide)
  have a9 := a 9 (by decide)
  have a10 := a 10 (by decide)
  have a11 := a 11 (by decide)
  have a12 := a 12 (by decide)
  have a13 := a 13 (by decide)
  have a14 := a 14 (by decide)
  unfold exF
  rw [a1, a2, a3, a4, a5, a6, a7, a8, a9, a10, a11, a12, a13, a14, hth, h12]
  exact fun _ _ => rfl
theorem exT_ad {q : Nat → ClassId} {ad ad2 : Nat → Nat} {κ : KS} {τ : TAU} {M : Nat} (hag : ∀ i, lvV κ M i → ad2 i = ad i) (hW : WFa κ τ M) {k : Nat} (hk : k < M) : ∀ j, exT q ad2 κ k j = exT q ad κ k j := by
  have hT : ∀ k, k < M → ad2 (100 + 4 * k) = ad (100 + 4 * k) := fun k h => hag _ (Or.inr (Or.inl ⟨by omega, by omega⟩))
  have b1 : ad2 (101 + 4 * k) = ad (101 + 4 * k) := hag _ (Or.inr (Or.inl ⟨by omega, by omega⟩))
  have b2 : ad2 (102 + 4 * k) = ad (102 + 4 * k) := hag _ (Or.inr (Or.inl ⟨by omega, by omega⟩))
  have b3 : ad2 (103 + 4 * k) = ad (103 + 4 * k) := hag _ (Or.inr (Or.inl ⟨by omega, by omega⟩))
  have b8 : (rT (sA κ 8 k)).map ad2 = (rT (sA κ 8 k)).map ad := mapT hT (hW.2.1 k hk)
  have b6 : (fun j => (rT (tr 0 (sA κ 6) k j)).map ad2) = fun j => (rT (tr 0 (sA κ 6) k j)).map ad := funext fun j => mapT hT (fun hn => by
    unfold tr at hn ⊢
    by_cases hj : j < 12
    · rw [if_pos hj] at hn ⊢; exact hW.2.2.1 k j hk hj hn
    · rw [if_neg hj] at hn; exact absurd rfl hn)
  unfold exT
  rw [b1, b2, b3, b8, b6]
  exact fun _ => rfl
theorem exX_ad {q : Nat → ClassId} {ad ad2 : Nat → Nat} {κ : KS} {τ : TAU} {M : Nat} (hM : M ≤ 60) (hag : ∀ i, lvV κ M i → ad2 i = ad i) (hW : WFa κ τ M) : ∀ i, lvV κ M i → exX q ad2 κ τ i = exX q ad κ τ i := by
  intro i hi
  by_cases hj : i < 15
  · rw [exX_lt hj, exX_lt hj]; exact exF_ad hag hW i hj
  · by_cases h4 : i < 400
    · have h1 : 100 ≤ i ∧ i < 100 + 4 * M := by rcases hi with h | h | h | h <;> omega
      rw [exT_of h1.1 h4, exT_of h1.1 h4]
      exact exT_ad hag hW (by omega) _
    · rw [exX_ge hj, exX_ge hj]; exact exG_cg h4 rfl rfl
theorem tr_new {α : Type} {z : α} {f : Nat → α} {M : Nat} (h : ∀ i, 12 * M ≤ i → i < 12 * M + 12 → f i = z) : tr z f M = fun _ => z := by
  funext j
  unfold tr
  by_cases hj : j < 12
  · rw [if_pos hj]; exact h _ (by omega) (by omega)
  · rw [if_neg hj]
theorem tr_old {α : Type} {z : α} {f g : Nat → α} {M k : Nat} (h : ∀ i, ¬ (12 * M ≤ i ∧ i < 12 * M + 12) → f i = g i) (hk : k ≠ M) : tr z f k = tr z g k := by
  funext j
  unfold tr
  by_cases hj : j < 12
  · rw [if_pos hj, if_pos hj]; exact h _ (by omega)
  · rw [if_neg hj, if_neg hj]
theorem nw_A4 {κ : KS} {M : Nat} (h60 : M < 60) (kd pl : Int32) : sA (nw κ M kd pl) 4 = va_up (sA κ 4) M kd := by unfold nw; rw [uI_A, mk_A4 rfl h60, uI_A]
theorem nw_A5 {κ : KS} {M : Nat} (h60 : M < 60) (kd pl : Int32) : sA (nw κ M kd pl) 5 = va_up (sA κ 5) M pl := by unfold nw; rw [uI_A, mk_A5 rfl h60, uI_A]
theorem nw_A7 {κ : KS} {M : Nat} (h60 : M < 60) (kd pl : Int32) : sA (nw κ M kd pl) 7 = va_up (sA κ 7) M 0 := by unfold nw; rw [uI_A, mk_A7 rfl h60, uI_A]
theorem nw_A8 {κ : KS} {M : Nat} (h60 : M < 60) (kd pl : Int32) : sA (nw κ M kd pl) 8 = va_up (sA κ 8) M 0 := by unfold nw; rw [uI_A, mk_A8 rfl h60, uI_A]
theorem nw_J2 {κ : KS} {M : Nat} (h60 : M < 60) (kd pl : Int32) : sJ (nw κ M kd pl) 2 = va_up (sJ κ 2) M 0 := by unfold nw; rw [uI_J, mk_J2 rfl h60, uI_J]
theorem nw_J1 {κ : KS} {M : Nat} (h60 : M < 60) (kd pl : Int32) (i : Nat) : sJ (nw κ M kd pl) 1 i = if 12 * M ≤ i ∧ i < 12 * M + 12 then 0 else sJ κ 1 i := by unfold nw; rw [uI_J, mk_J1 rfl h60, uI_J]
theorem nw_D1 {κ : KS} {M : Nat} (h60 : M < 60) (kd pl : Int32) (i : Nat) : sD (nw κ M kd pl) 1 i = if 12 * M ≤ i ∧ i < 12 * M + 12 then FP.dconst0 else sD κ 1 i := by unfold nw; rw [uI_D, mk_D1 rfl h60, uI_D]
theorem nw_A6 {κ : KS} {M : Nat} (h60 : M < 60) (kd pl : Int32) (i : Nat) : sA (nw κ M kd pl) 6 i = if 12 * M ≤ i ∧ i < 12 * M + 12 then 0 else sA κ 6 i := by unfold nw; rw [uI_A, mk_A6 rfl h60, uI_A]
theorem nw_A {κ : KS} {M : Nat} (kd pl : Int32) {k : Nat} (h : k ≠ 4 ∧ k ≠ 5 ∧ k ≠ 6 ∧ k ≠ 7 ∧ k ≠ 8) : sA (nw κ M kd pl) k = sA κ k := by unfold nw; rw [uI_A, mk_A _ _ _ h, uI_A]
theorem nw_J0 {κ : KS} {M : Nat} (kd pl : Int32) : sJ (nw κ M kd pl) 0 = sJ κ 0 := by unfold nw; rw [uI_J, mk_J0, uI_J]
theorem nw_D0 {κ : KS} {M : Nat} (kd pl : Int32) : sD (nw κ M kd pl) 0 = sD κ 0 := by unfold nw; rw [uI_D, mk_D0, uI_D]
theorem nw_F {κ : KS} {M : Nat} (kd pl : Int32) : sF (nw κ M kd pl) = sF κ := by unfold nw; rw [uI_F, mk_F, uI_F]
theorem exT_nwo {κ : KS} {M : Nat} (h60 : M < 60) (kd pl : Int32) {q : Nat → ClassId} {ad : Nat → Nat} {k : Nat} (hk : k < M) : ∀ j, exT q ad (nw κ M kd pl) k j = exT q ad κ k j := by
  have hne : k ≠ M := by omega
  have e4 : sA (nw κ M kd pl) 4 k = sA κ 4 k := by rw [nw_A4 h60, va_up_ne _ _ hne]
  have e5 : sA (nw κ M kd pl) 5 k = sA κ 5 k := by rw [nw_A5 h60, va_up_ne _ _ hne]
  have e7 : sA (nw κ M kd pl) 7 k = sA κ 7 k := by rw [nw_A7 h60, va_up_ne _ _ hne]
  have e8 : sA (nw κ M kd pl) 8 k = sA κ 8 k := by rw [nw_A8 h60, va_up_ne _ _ hne]
  have e2 : sJ (nw κ M kd pl) 2 k = sJ κ 2 k := by rw [nw_J2 h60, va_up_ne _ _ hne]
  have t1 : tr 0 (sJ (nw κ M kd pl) 1) k = tr 0 (sJ κ 1) k := tr_old (fun i h => (nw_J1 h60 kd pl i).trans (if_neg h)) hne
  have t2 : tr FP.dconst0 (sD (nw κ M kd pl) 1) k = tr FP.dconst0 (sD κ 1) k := tr_old (fun i h => (nw_D1 h60 kd pl i).trans (if_neg h)) hne
  have t3 : tr 0 (sA (nw κ M kd pl) 6) k = tr 0 (sA κ 6) k := tr_old (fun i h => (nw_A6 h60 kd pl i).trans (if_neg h)) hne
  unfold exT lnN lnP lnM
  rw [e4, e5, e7, e8, e2, t1, t2, t3]
  exact fun _ => rfl
/-- a world that holds a new thing number M beside what stood -/
theorem xN {D : va_G} {q : Nat → ClassId} {A : Nat → Prop} {H0 : Heap} {s : State} {ad : Nat → Nat} {κ : KS} {τ : TAU} {H : Heap} {locs : List Loc} {M : Nat} {kd pl : Int32} {W : wT} (h60 : M < 60) (hF : WFa κ τ M) (hold : ∀ i, lvV κ M i → W.2.1 i ∧ W.1 i = ad i ∧ W.2.2 i = exX q ad κ τ i) {a0 a1 a2 a3 : Nat} (k0 : At W (100 + 4 * M) a0 (.inr (6, [.int kd, .int pl, .ref a1, .ref a2, .ref a3, .int 0, .long 0, .null]))) (k1 : At W (101 + 4 * M) a1 (.inl (q 1, nNum kd pl, .inr (.inl (fun _ => 0))))) (k2 : At W (102 + 4 * M) a2 (.inl (q 3, nPts kd pl, .inr (.inr (.inr (.inl (fun _ => FP.dconst0))))))) (k3 : At W (103 + 4 * M) a3 (.inl (q 6, nMem kd pl, .inr (.inr (.inr (.inr (fun _ => none))))))) (h : rX D q A H0 s W H locs) : rX D q A H0 s (wV q W.1 (nw κ M kd pl) τ (M + 1)) H locs := by
  have hag : ∀ i, lvV κ M i → W.1 i = ad i := fun i hi => (hold i hi).2.1
  have split : ∀ i, lvV (nw κ M kd pl) (M + 1) i → lvV κ M i ∨ i = 100 + 4 * M ∨ i = 101 + 4 * M ∨ i = 102 + 4 * M ∨ i = 103 + 4 * M := by
    intro i hi
    unfold lvV at hi
    rw [nw_I] at hi
    unfold lvV
    omega
  have old : ∀ i, lvV κ M i → exX q W.1 (nw κ M kd pl) τ i = W.2.2 i := by
    intro i hi
    rw [(hold i hi).2.2, ← exX_ad (Nat.le_of_lt h60) hag hF i hi]
    by_cases hj : i < 15
    · rw [exX_lt hj, exX_lt hj, exF_cg (nw_I κ M kd pl) (nw_A kd pl (by decide)) (nw_A kd pl (by decide)) (nw_A kd pl (by decide)) (nw_A kd pl (by decide)) (nw_J0 kd pl) (nw_F kd pl) (nw_D0 kd pl)]
    · by_cases h4 : i < 400
      · have h1 : 100 ≤ i ∧ i < 100 + 4 * M := by rcases hi with h | h | h | h <;> omega
        rw [exT_of h1.1 h4, exT_of h1.1 h4]
        exact exT_nwo h60 kd pl (by omega) _
      · rw [exX_ge hj, exX_ge hj]; exact exG_cg h4 (nw_A kd pl (by decide)) (nw_A kd pl (by decide))
  have e4 : sA (nw κ M kd pl) 4 M = kd := by rw [nw_A4 h60, va_up_self]
  have e5 : sA (nw κ M kd pl) 5 M = pl := by rw [nw_A5 h60, va_up_self]
  have e7 : sA (nw κ M kd pl) 7 M = 0 := by rw [nw_A7 h60, va_up_self]
  have e8 : sA (nw κ M kd pl) 8 M = 0 := by rw [nw_A8 h60, va_up_self]
  have e2 : sJ (nw κ M kd pl) 2 M = 0 := by rw [nw_J2 h60, va_up_self]
  have t1 : tr 0 (sJ (nw κ M kd pl) 1) M = fun _ => 0 := tr_new (fun i h1 h2 => (nw_J1 h60 kd pl i).trans (if_pos ⟨h1, h2⟩))
  have t2 : tr FP.dconst0 (sD (nw κ M kd pl) 1) M = fun _ => FP.dconst0 := tr_new (fun i h1 h2 => (nw_D1 h60 kd pl i).trans (if_pos ⟨h1, h2⟩))
  have t3 : tr 0 (sA (nw κ M kd pl) 6) M = fun _ => 0 := tr_new (fun i h1 h2 => (nw_A6 h60 kd pl i).trans (if_pos ⟨h1, h2⟩))
  have new0 : exT q W.1 (nw κ M kd pl) M 0 = .inr (6, [.int kd, .int pl, .ref a1, .ref a2, .ref a3, .int 0, .long 0, .null]) := by
    show (Sum.inr (6, [.int (sA (nw κ M kd pl) 4 M), .int (sA (nw κ M kd pl) 5 M), .ref (W.1 (101 + 4 * M)), .ref (W.1 (102 + 4 * M)), .ref (W.1 (103 + 4 * M)), .int (sA (nw κ M kd pl) 7 M), .long (sJ (nw κ M kd pl) 2 M), va_rf ((rT (sA (nw κ M kd pl) 8 M)).map W.1)]) : va_E) = _
    rw [e4, e5, e7, e8, e2, k1.2.1, k2.2.1, k3.2.1]
    rfl
  have new1 : exT q W.1 (nw κ M kd pl) M 1 = .inl (q 1, nNum kd pl, .inr (.inl (fun _ => 0))) := by
    show (Sum.inl (q 1, (if sA (nw κ M kd pl) 4 M ≤ 5 then aN (sA (nw κ M kd pl) 5 M) else 0), .inr (.inl (tr 0 (sJ (nw κ M kd pl) 1) M))) : va_E) = _
    rw [e4, e5, t1]
    rfl
  have new2 : exT q W.1 (nw κ M kd pl) M 2 = .inl (q 3, nPts kd pl, .inr (.inr (.inr (.inl (fun _ => FP.dconst0))))) := by
    show (Sum.inl (q 3, (if sA (nw κ M kd pl) 4 M = 6 ∨ sA (nw κ M kd pl) 4 M = 7 then aN (sA (nw κ M kd pl) 5 M) else 0), .inr (.inr (.inr (.inl (tr FP.dconst0 (sD (nw κ M kd pl) 1) M))))) : va_E) = _
    rw [e4, e5, t2]
    rfl
  have new3 : exT q W.1 (nw κ M kd pl) M 3 = .inl (q 6, nMem kd pl, .inr (.inr (.inr (.inr (fun _ => none))))) := by
    show (Sum.inl (q 6, (if 8 ≤ sA (nw κ M kd pl) 4 M ∧ sA (nw κ M kd pl) 4 M ≤ 10 then aN (sA (nw κ M kd pl) 5 M) else 0), .inr (.inr (.inr (.inr (fun j => (rT (tr 0 (sA (nw κ M kd pl) 6) M j)).map W.1))))) : va_E) = _
    rw [e4, e5, t3]
    rfl
  refine h.as (fun i hi => ?_) (fun i hi => rfl) (fun i hi => ?_)
  · rcases split i hi with g | g | g | g | g
    · exact (hold i g).1
    · rw [g]; exact k0.1
    · rw [g]; exact k1.1
    · rw [g]; exact k2.1
    · rw [g]; exact k3.1
  · show exX q W.1 (nw κ M kd pl) τ i = W.2.2 i
    rcases split i hi with g | g | g | g | g
    · exact old i g
    · rw [g, k0.2.2, exT0 (by omega), new0]
    · rw [g, k1.2.2, exT1 (by omega), new1]
    · rw [g, k2.2.2, exT2 (by omega), new2]
    · rw [g, k3.2.2, exT3 (by omega), new3]
