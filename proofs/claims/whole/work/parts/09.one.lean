/-! failures and a step, as numbers -/
theorem upt (t : Nat → Int32) (k : Nat) : va_up t k (t k) = t := by
  funext j
  by_cases h : j = k
  · subst h; rw [va_up_self]
  · rw [va_up_ne _ _ h]
theorem upup {α : Type} (t : Nat → α) (k : Nat) (x y : α) : va_up (va_up t k x) k y = va_up t k y := by
  funext j
  by_cases h : j = k
  · subst h; rw [va_up_self, va_up_self]
  · rw [va_up_ne _ _ h, va_up_ne _ _ h, va_up_ne _ _ h]
theorem uI_uI (κ : KS) (k : Nat) (x y : Int32) : uI (uI κ k x) k y = uI κ k y := by unfold uI; rw [upup]
theorem uI_same (κ : KS) (k : Nat) : uI κ k (sI κ k) = κ := by unfold uI; rw [upt]
/-- a handler names the failure f of a step at p -/
abbrev hit (κ : KS) (p f K : Int32) : Prop := (sA κ 1 (aN (4 * K))) ≤ p ∧ ¬ (sA κ 1 (aN ((4 * K) + 1))) ≤ p ∧ ((sA κ 1 (aN ((4 * K) + 2))) >>> (f &&& 31)) &&& 1 = 1
/-- the first such handler from K on, among n; -1 if there is none -/
def hSeek (κ : KS) (p f : Int32) : Nat → Int32 → Int32
  | 0, _ => -1
  | n + 1, K => if hit κ p f K then K else hSeek κ p f n (K + 1)
/-- the handler that is found, and how many calls stand then -/
def fSeek (κ : KS) (f : Int32) (hm : Nat) : Nat → Int32 → Int32 × Nat
  | 0, fd => (fd, 0)
  | n + 1, fd => if 0 ≤ fd then (fd, n + 1) else fSeek κ f hm n (hSeek κ (sA κ 9 n) f hm 0)
/-- the numbers behind a failure f of a step -/
def fK (κ : KS) (f : Int32) : KS := uI (uI (uI κ 8 (sI κ 8 + 1)) 9 f) 10 (sI κ 4)
def fR (κ : KS) (f : Int32) : Int32 × Nat := fSeek κ f (aN (sI κ 1)) (aN (sI κ 6)) (hSeek κ (sI κ 4) f (aN (sI κ 1)) 0)
def failK (κ : KS) (f : Int32) : KS := if 0 ≤ (fR κ f).1 then uI (fK κ f) 6 (nI (fR κ f).2) else uI (uI (fK κ f) 6 (nI (fR κ f).2)) 3 3
def failT (κ : KS) (t : Nat → Int32) (k : Nat) (f : Int32) : Nat → Int32 := if 0 ≤ (fR κ f).1 then va_up (va_up (va_up t 4 f) 5 (if k = 68 ∧ 8 ≤ f then sA κ 3 (aN (t 0)) else 0)) 3 (sA κ 1 (aN ((4 * (fR κ f).1) + 3))) else t
/-- the step at the run's place -/
abbrev oK (κ : KS) : Nat := aN (sA κ 0 (aN (4 * sI κ 4)))
abbrev oA (κ : KS) : Int32 := sA κ 0 (aN ((4 * sI κ 4) + 1))
abbrev oB (κ : KS) : Int32 := sA κ 0 (aN ((4 * sI κ 4) + 2))
abbrev oC (κ : KS) : Int32 := sA κ 0 (aN ((4 * sI κ 4) + 3))
def t1 (κ : KS) (t : Nat → Int32) : Nat → Int32 := va_up (va_up (va_up (va_up t 0 (oA κ)) 1 (oB κ)) 2 (oC κ)) 3 (sI κ 4 + 1)
def oF (κ : KS) : Int32 := why κ (oK κ) (oA κ) (oB κ) (oC κ)
def o2 (κ : KS) (t : Nat → Int32) : KS × (Nat → Int32) := if oF κ = 0 then (act κ (t 4) (t 5) (oK κ) (oA κ) (oB κ) (oC κ), va_up (t1 κ t) 3 (nxt κ (oK κ) (oA κ) (oB κ) (sI κ 4 + 1))) else (failK κ (oF κ), failT κ (t1 κ t) (oK κ) (oF κ))
def o3 (u : KS × (Nat → Int32)) : KS × (Nat → Int32) := if sI u.1 3 = 1 then (uI (uI (uI u.1 5 (sI u.1 5 + 1)) 4 (u.2 3)) 3 (if (sI u.1 0) ≤ (u.2 3) then 2 else 1), u.2) else (uI u.1 5 (sI u.1 5 + 1), u.2)
def one (u : KS × (Nat → Int32)) : KS × (Nat → Int32) := o3 (o2 u.1 u.2)
def ones : Nat → KS × (Nat → Int32) → KS × (Nat → Int32)
  | 0, u => u
  | n + 1, u => if sI u.1 3 = 1 then ones n (one u) else u
theorem mk_made (κ : KS) (a b : Int32) : sI (mk κ a b) 2 = sI κ 2 + 1 := rfl
theorem mkR_made (κ : KS) (g pl : Int32) : ∀ i, sI (mkR κ g pl i) 2 = sI κ 2 + nI i
  | 0 => by show sI κ 2 = _; rw [nI_0]; simp
  | i + 1 => by
    show sI (mkR κ g pl i) 2 + 1 = _
    rw [mkR_made κ g pl i, nI_succ, Int32.add_assoc]
