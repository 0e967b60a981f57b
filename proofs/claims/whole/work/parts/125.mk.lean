theorem uJ_A (κ : KS) (k i : Nat) (v : Int64) : sA (uJ κ k i v) = sA κ := rfl
theorem uD_A (κ : KS) (k i : Nat) (v : UInt64) : sA (uD κ k i v) = sA κ := rfl
theorem uF_A (κ : KS) (i : Nat) (v : UInt32) : sA (uF κ i v) = sA κ := rfl
theorem uI_A (κ : KS) (k : Nat) (v : Int32) : sA (uI κ k v) = sA κ := rfl
theorem uA_ne (κ : KS) {k k' : Nat} (i : Nat) (v : Int32) (h : k' ≠ k) : sA (uA κ k i v) k' = sA κ k' := by simp [sA, uA, va_up, h]
theorem zl_A (x : Int32) (κ : KS) {k : Nat} (h : k ≠ 6) : ∀ n, sA (zl x κ n) k = sA κ k
  | 0 => rfl
  | n + 1 => by
    unfold zl
    rw [uA_ne _ _ _ h, uD_A, uJ_A]
    exact zl_A x κ h n
theorem mk_A2 (κ : KS) (a b : Int32) : sA (mk κ a b) 2 = sA κ 2 := by
  unfold mk
  rw [uI_A, uA_ne _ _ _ (by decide), uJ_A, uA_ne _ _ _ (by decide), zl_A _ _ (by decide), uA_ne _ _ _ (by decide), uA_ne _ _ _ (by decide)]
