theorem uI_comm (κ : KS) {i j : Nat} (h : i ≠ j) (x y : Int32) : uI (uI κ i x) j y = uI (uI κ j y) i x := by
  unfold uI
  have e : va_up (va_up κ.1 i x) j y = va_up (va_up κ.1 j y) i x := by
    funext z
    by_cases h1 : z = j
    · subst h1
      rw [va_up_self, va_up_ne _ _ (fun q => h q.symm), va_up_self]
    · rw [va_up_ne _ _ h1]
      by_cases h2 : z = i
      · subst h2
        rw [va_up_self, va_up_self]
      · rw [va_up_ne _ _ h2, va_up_ne _ _ h2, va_up_ne _ _ h1]
  show (va_up (va_up κ.1 i x) j y, κ.2) = (va_up (va_up κ.1 j y) i x, κ.2)
  rw [e]
theorem zl_5 (x : Int32) (κ : KS) (v : Int32) : ∀ n, zl x (uI κ 5 v) n = uI (zl x κ n) 5 v
  | 0 => rfl
  | n + 1 => by
    show uA (uD (uJ (zl x (uI κ 5 v) n) 1 _ 0) 1 _ _) 6 _ 0 = uI (uA (uD (uJ (zl x κ n) 1 _ 0) 1 _ _) 6 _ 0) 5 v
    rw [zl_5 x κ v n]
    generalize zl x κ n = Z
    rfl
theorem mk_5a (Z : KS) (i : Nat) (v y : Int32) : uI (uA (uJ (uA (uI Z 5 v) 7 i 0) 2 i 0) 8 i 0) 2 y = uI (uI (uA (uJ (uA Z 7 i 0) 2 i 0) 8 i 0) 2 y) 5 v := by
  rw [uA_uI, show uJ (uI (uA Z 7 i 0) 5 v) 2 i 0 = uI (uJ (uA Z 7 i 0) 2 i 0) 5 v from rfl, uA_uI]
  exact uI_comm _ (show (5 : Nat) ≠ 2 by decide) v _
theorem mk_eqn (κ : KS) (kd pl x : Int32) (h : sI κ 2 = x) : mk κ kd pl = uI (uA (uJ (uA (zl x (uA (uA κ 4 (aN x) kd) 5 (aN x) pl) 12) 7 (aN x) 0) 2 (aN x) 0) 8 (aN x) 0) 2 (x + 1) := by
  subst h
  unfold mk
  exact Eq.refl _
theorem mk_5 (κ : KS) (kd pl v : Int32) : mk (uI κ 5 v) kd pl = uI (mk κ kd pl) 5 v := by
  obtain ⟨x, hx⟩ : ∃ x, x = sI κ 2 := ⟨_, rfl⟩
  have e2 : sI (uI κ 5 v) 2 = x := hx.symm
  rw [mk_eqn (uI κ 5 v) kd pl x e2, mk_eqn κ kd pl x hx.symm]
  have e3 : uA (uA (uI κ 5 v) 4 (aN x) kd) 5 (aN x) pl = uI (uA (uA κ 4 (aN x) kd) 5 (aN x) pl) 5 v := rfl
  rw [e3]
  have e4 := zl_5 x (uA (uA κ 4 (aN x) kd) 5 (aN x) pl) v
  generalize 12 = n
  rw [e4 n]
  exact mk_5a _ _ _ _
theorem mkR_5 (κ : KS) (g pl v : Int32) : ∀ n, mkR (uI κ 5 v) g pl n = uI (mkR κ g pl n) 5 v
  | 0 => rfl
  | n + 1 => by
    rw [mkR_s, mkR_s, mkR_5 κ g pl v n]
    generalize mkR κ g pl n = Z
    rw [mk_5, show sI (uI Z 5 v) 2 = sI Z 2 from rfl, uA_uI]
theorem why_5 (κ : KS) (v : Int32) (k : Nat) (a b c : Int32) : why (uI κ 5 v) k a b c = why κ k a b c := rfl
theorem nxt_5 (κ : KS) (v : Int32) (k : Nat) (a b d : Int32) : nxt (uI κ 5 v) k a b d = nxt κ k a b d := rfl
theorem mkN_5 (κ : KS) (v : Int32) (k : Nat) (b : Int32) : mkN (uI κ 5 v) k b = mkN κ k b := rfl
theorem act_5 (κ : KS) (v hd th : Int32) {k : Nat} (hk : k < 74) (a b c : Int32) : act (uI κ 5 v) hd th k a b c = uI (act κ hd th k a b c) 5 v := by
  match k, hk with
  | 0, _ => exact uI_comm κ (show (5 : Nat) ≠ 3 by decide) _ _
  | 1, _ => rfl
  | 2, _ => rfl
  | 3, _ => rfl
  | 4, _ => rfl
  | 5, _ => rfl
  | 6, _ => rfl
  | 7, _ => rfl
  | 8, _ => rfl
  | 9, _ => rfl
  | 10, _ => rfl
  | 11, _ => rfl
  | 12, _ => rfl
  | 13, _ => rfl
  | 14, _ => rfl
  | 15, _ => rfl
  | 16, _ => rfl
  | 17, _ => rfl
  | 18, _ => rfl
  | 19, _ => rfl
  | 20, _ => rfl
  | 21, _ => rfl
  | 22, _ => rfl
  | 23, _ => rfl
  | 24, _ => rfl
  | 25, _ => rfl
  | 26, _ => rfl
  | 27, _ => rfl
  | 28, _ => rfl
  | 29, _ => exact uI_comm (uA κ 9 (aN (sI κ 6)) (sI κ 4)) (show (5 : Nat) ≠ 6 by decide) v _
  | 30, _ => show (if sI κ 6 = 0 then uI (uI κ 5 v) 3 2 else uI (uI κ 5 v) 6 (sI κ 6 - 1)) = uI (if sI κ 6 = 0 then uI κ 3 2 else uI κ 6 (sI κ 6 - 1)) 5 v; split; exact uI_comm κ (show (5 : Nat) ≠ 3 by decide) v _; exact uI_comm κ (show (5 : Nat) ≠ 6 by decide) v _
  | 31, _ => rw [act_31, act_31, mk_5, show sA (uI κ 5 v) 2 = sA κ 2 from rfl, show sI (uI κ 5 v) 2 = sI κ 2 from rfl]; generalize mk κ b (sA κ 2 (aN c)) = Z; rfl
  | 32, _ => rw [act_32, act_32, mk_5, show sA (uI κ 5 v) 2 = sA κ 2 from rfl, show sI (uI κ 5 v) 2 = sI κ 2 from rfl, mkR_5]; generalize mkR (mk κ 10 (sA κ 2 (aN b))) (sI κ 2) (sA κ 2 (aN c)) (aN (sA κ 2 (aN b))) = Z; rfl
  | 33, _ => rw [act_33, act_33, mk_5, show sA (uI κ 5 v) 2 = sA κ 2 from rfl, show sI (uI κ 5 v) 2 = sI κ 2 from rfl]; generalize mk κ b 0 = Z; rfl
  | 34, _ => rfl
  | 35, _ => rfl
  | 36, _ => rfl
  | 37, _ => rfl
  | 38, _ => rfl
  | 39, _ => rfl
  | 40, _ => rfl
  | 41, _ => rfl
  | 42, _ => rfl
  | 43, _ => rfl
  | 44, _ => rfl
  | 45, _ => rfl
  | 46, _ => rfl
  | 47, _ => rfl
  | 48, _ => rfl
  | 49, _ => rfl
  | 50, _ => rfl
  | 51, _ => rfl
  | 52, _ => rfl
  | 53, _ => rfl
  | 54, _ => rfl
  | 55, _ => rfl
  | 56, _ => rfl
  | 57, _ => rfl
  | 58, _ => rfl
  | 59, _ => rfl
  | 60, _ => rfl
  | 61, _ => rfl
  | 62, _ => rfl
  | 63, _ => rfl
  | 64, _ => rfl
  | 65, _ => rfl
  | 66, _ => rfl
  | 67, _ => rw [act_67, act_67, mk_5, show sA (uI κ 5 v) 2 = sA κ 2 from rfl, show sA (uI κ 5 v) 3 = sA κ 3 from rfl, show sI (uI κ 5 v) 2 = sI κ 2 from rfl]; generalize mk κ 15 0 = Z; rfl
  | 68, _ => rfl
  | 69, _ => rfl
  | 70, _ => rfl
  | 71, _ => rfl
  | 72, _ => rfl
  | 73, _ => show uI (if 200 ≤ sI κ 7 then uI κ 5 v else uA (uI κ 5 v) 10 (aN (sI κ 7)) (wd κ a)) 7 (sI κ 7 + 1) = uI (uI (if 200 ≤ sI κ 7 then κ else uA κ 10 (aN (sI κ 7)) (wd κ a)) 7 (sI κ 7 + 1)) 5 v; split; exact uI_comm κ (show (5 : Nat) ≠ 7 by decide) v _; exact uI_comm (uA κ 10 (aN (sI κ 7)) (wd κ a)) (show (5 : Nat) ≠ 7 by decide) v _
  | n + 74, q => exact absurd q (by omega)
theorem mkR_I (κ : KS) (g pl : Int32) {i : Nat} (hi : i ≠ 2) : ∀ n, sI (mkR κ g pl n) i = sI κ i
  | 0 => rfl
  | n + 1 => by rw [mkR_s, uA_I, mk_I, va_up_ne _ _ hi]; exact mkR_I κ g pl hi n
theorem act_I0 (κ : KS) (hd th : Int32) {k : Nat} (hk : k < 74) (a b c : Int32) : sI (act κ hd th k a b c) 0 = sI κ 0 := by
  match k, hk with
  | 0, _ => rfl
  | 1, _ => rfl
  | 2, _ => rfl
  | 3, _ => rfl
  | 4, _ => rfl
  | 5, _ => rfl
  | 6, _ => rfl
  | 7, _ => rfl
  | 8, _ => rfl
  | 9, _ => rfl
  | 10, _ => rfl
  | 11, _ => rfl
  | 12, _ => rfl
  | 13, _ => rfl
  | 14, _ => rfl
  | 15, _ => rfl
  | 16, _ => rfl
  | 17, _ => rfl
  | 18, _ => rfl
  | 19, _ => rfl
  | 20, _ => rfl
  | 21, _ => rfl
  | 22, _ => rfl
  | 23, _ => rfl
  | 24, _ => rfl
  | 25, _ => rfl
  | 26, _ => rfl
  | 27, _ => rfl
  | 28, _ => rfl
  | 29, _ => rfl
  | 30, _ => show sI (if sI κ 6 = 0 then uI κ 3 2 else uI κ 6 (sI κ 6 - 1)) 0 = _; split <;> rfl
  | 31, _ => rw [act_31, uA_I, mk_I]; exact va_up_ne _ _ (by decide)
  | 32, _ => rw [act_32, uA_I, mkR_I _ _ _ (by decide), mk_I]; exact va_up_ne _ _ (by decide)
  | 33, _ => rw [act_33, uA_I, uA_I, mk_I]; exact va_up_ne _ _ (by decide)
  | 34, _ => rfl
  | 35, _ => rfl
  | 36, _ => rfl
  | 37, _ => rfl
  | 38, _ => rfl
  | 39, _ => rfl
  | 40, _ => rfl
  | 41, _ => rfl
  | 42, _ => rfl
  | 43, _ => rfl
  | 44, _ => rfl
  | 45, _ => rfl
  | 46, _ => rfl
  | 47, _ => rfl
  | 48, _ => rfl
  | 49, _ => rfl
  | 50, _ => rfl
  | 51, _ => rfl
  | 52, _ => rfl
  | 53, _ => rfl
  | 54, _ => rfl
  | 55, _ => rfl
  | 56, _ => rfl
  | 57, _ => rfl
  | 58, _ => rfl
  | 59, _ => rfl
  | 60, _ => rfl
  | 61, _ => rfl
  | 62, _ => rfl
  | 63, _ => rfl
  | 64, _ => rfl
  | 65, _ => rfl
  | 66, _ => rfl
  | 67, _ => rw [act_67, uA_I, uA_I, uA_I, mk_I]; exact va_up_ne _ _ (by decide)
  | 68, _ => rfl
  | 69, _ => rfl
  | 70, _ => rfl
  | 71, _ => rfl
  | 72, _ => rfl
  | 73, _ => show sI (uI (if 200 ≤ sI κ 7 then κ else uA κ 10 (aN (sI κ 7)) (wd κ a)) 7 (sI κ 7 + 1)) 0 = _; split <;> rfl
  | n + 74, q => exact absurd q (by omega)
theorem act_I1 (κ : KS) (hd th : Int32) {k : Nat} (hk : k < 74) (a b c : Int32) : sI (act κ hd th k a b c) 1 = sI κ 1 := by
  match k, hk with
  | 0, _ => rfl
  | 1, _ => rfl
  | 2, _ => rfl
  | 3, _ => rfl
  | 4, _ => rfl
  | 5, _ => rfl
  | 6, _ => rfl
  | 7, _ => rfl
  | 8, _ => rfl
  | 9, _ => rfl
  | 10, _ => rfl
  | 11, _ => rfl
  | 12, _ => rfl
  | 13, _ => rfl
  | 14, _ => rfl
  | 15, _ => rfl
  | 16, _ => rfl
  | 17, _ => rfl
  | 18, _ => rfl
  | 19, _ => rfl
  | 20, _ => rfl
  | 21, _ => rfl
  | 22, _ => rfl
  | 23, _ => rfl
  | 24, _ => rfl
  | 25, _ => rfl
  | 26, _ => rfl
  | 27, _ => rfl
  | 28, _ => rfl
  | 29, _ => rfl
  | 30, _ => show sI (if sI κ 6 = 0 then uI κ 3 2 else uI κ 6 (sI κ 6 - 1)) 1 = _; split <;> rfl
  | 31, _ => rw [act_31, uA_I, mk_I]; exact va_up_ne _ _ (by decide)
  | 32, _ => rw [act_32, uA_I, mkR_I _ _ _ (by decide), mk_I]; exact va_up_ne _ _ (by decide)
  | 33, _ => rw [act_33, uA_I, uA_I, mk_I]; exact va_up_ne _ _ (by decide)
  | 34, _ => rfl
  | 35, _ => rfl
  | 36, _ => rfl
  | 37, _ => rfl
  | 38, _ => rfl
  | 39, _ => rfl
  | 40, _ => rfl
  | 41, _ => rfl
  | 42, _ => rfl
  | 43, _ => rfl
  | 44, _ => rfl
  | 45, _ => rfl
  | 46, _ => rfl
  | 47, _ => rfl
  | 48, _ => rfl
  | 49, _ => rfl
  | 50, _ => rfl
  | 51, _ => rfl
  | 52, _ => rfl
  | 53, _ => rfl
  | 54, _ => rfl
  | 55, _ => rfl
  | 56, _ => rfl
  | 57, _ => rfl
  | 58, _ => rfl
  | 59, _ => rfl
  | 60, _ => rfl
  | 61, _ => rfl
  | 62, _ => rfl
  | 63, _ => rfl
  | 64, _ => rfl
  | 65, _ => rfl
  | 66, _ => rfl
  | 67, _ => rw [act_67, uA_I, uA_I, uA_I, mk_I]; exact va_up_ne _ _ (by decide)
  | 68, _ => rfl
  | 69, _ => rfl
  | 70, _ => rfl
  | 71, _ => rfl
  | 72, _ => rfl
  | 73, _ => show sI (uI (if 200 ≤ sI κ 7 then κ else uA κ 10 (aN (sI κ 7)) (wd κ a)) 7 (sI κ 7 + 1)) 1 = _; split <;> rfl
  | n + 74, q => exact absurd q (by omega)
theorem act_I4 (κ : KS) (hd th : Int32) {k : Nat} (hk : k < 74) (a b c : Int32) : sI (act κ hd th k a b c) 4 = sI κ 4 := by
  match k, hk with
  | 0, _ => rfl
  | 1, _ => rfl
  | 2, _ => rfl
  | 3, _ => rfl
  | 4, _ => rfl
  | 5, _ => rfl
  | 6, _ => rfl
  | 7, _ => rfl
  | 8, _ => rfl
  | 9, _ => rfl
  | 10, _ => rfl
  | 11, _ => rfl
  | 12, _ => rfl
  | 13, _ => rfl
  | 14, _ => rfl
  | 15, _ => rfl
  | 16, _ => rfl
  | 17, _ => rfl
  | 18, _ => rfl
  | 19, _ => rfl
  | 20, _ => rfl
  | 21, _ => rfl
  | 22, _ => rfl
  | 23, _ => rfl
  | 24, _ => rfl
  | 25, _ => rfl
  | 26, _ => rfl
  | 27, _ => rfl
  | 28, _ => rfl
  | 29, _ => rfl
  | 30, _ => show sI (if sI κ 6 = 0 then uI κ 3 2 else uI κ 6 (sI κ 6 - 1)) 4 = _; split <;> rfl
  | 31, _ => rw [act_31, uA_I, mk_I]; exact va_up_ne _ _ (by decide)
  | 32, _ => rw [act_32, uA_I, mkR_I _ _ _ (by decide), mk_I]; exact va_up_ne _ _ (by decide)
  | 33, _ => rw [act_33, uA_I, uA_I, mk_I]; exact va_up_ne _ _ (by decide)
  | 34, _ => rfl
  | 35, _ => rfl
  | 36, _ => rfl
  | 37, _ => rfl
  | 38, _ => rfl
  | 39, _ => rfl
  | 40, _ => rfl
  | 41, _ => rfl
  | 42, _ => rfl
  | 43, _ => rfl
  | 44, _ => rfl
  | 45, _ => rfl
  | 46, _ => rfl
  | 47, _ => rfl
  | 48, _ => rfl
  | 49, _ => rfl
  | 50, _ => rfl
  | 51, _ => rfl
  | 52, _ => rfl
  | 53, _ => rfl
  | 54, _ => rfl
  | 55, _ => rfl
  | 56, _ => rfl
  | 57, _ => rfl
  | 58, _ => rfl
  | 59, _ => rfl
  | 60, _ => rfl
  | 61, _ => rfl
  | 62, _ => rfl
  | 63, _ => rfl
  | 64, _ => rfl
  | 65, _ => rfl
  | 66, _ => rfl
  | 67, _ => rw [act_67, uA_I, uA_I, uA_I, mk_I]; exact va_up_ne _ _ (by decide)
  | 68, _ => rfl
  | 69, _ => rfl
  | 70, _ => rfl
  | 71, _ => rfl
  | 72, _ => rfl
  | 73, _ => show sI (uI (if 200 ≤ sI κ 7 then κ else uA κ 10 (aN (sI κ 7)) (wd κ a)) 7 (sI κ 7 + 1)) 4 = _; split <;> rfl
  | n + 74, q => exact absurd q (by omega)
theorem act_I5 (κ : KS) (hd th : Int32) {k : Nat} (hk : k < 74) (a b c : Int32) : sI (act κ hd th k a b c) 5 = sI κ 5 := by
  match k, hk with
  | 0, _ => rfl
  | 1, _ => rfl
  | 2, _ => rfl
  | 3, _ => rfl
  | 4, _ => rfl
  | 5, _ => rfl
  | 6, _ => rfl
  | 7, _ => rfl
  | 8, _ => rfl
  | 9, _ => rfl
  | 10, _ => rfl
  | 11, _ => rfl
  | 12, _ => rfl
  | 13, _ => rfl
  | 14, _ => rfl
  | 15, _ => rfl
  | 16, _ => rfl
  | 17, _ => rfl
  | 18, _ => rfl
  | 19, _ => rfl
  | 20, _ => rfl
  | 21, _ => rfl
  | 22, _ => rfl
  | 23, _ => rfl
  | 24, _ => rfl
  | 25, _ => rfl
  | 26, _ => rfl
  | 27, _ => rfl
  | 28, _ => rfl
  | 29, _ => rfl
  | 30, _ => show sI (if sI κ 6 = 0 then uI κ 3 2 else uI κ 6 (sI κ 6 - 1)) 5 = _; split <;> rfl
  | 31, _ => rw [act_31, uA_I, mk_I]; exact va_up_ne _ _ (by decide)
  | 32, _ => rw [act_32, uA_I, mkR_I _ _ _ (by decide), mk_I]; exact va_up_ne _ _ (by decide)
  | 33, _ => rw [act_33, uA_I, uA_I, mk_I]; exact va_up_ne _ _ (by decide)
  | 34, _ => rfl
  | 35, _ => rfl
  | 36, _ => rfl
  | 37, _ => rfl
  | 38, _ => rfl
  | 39, _ => rfl
  | 40, _ => rfl
  | 41, _ => rfl
  | 42, _ => rfl
  | 43, _ => rfl
  | 44, _ => rfl
  | 45, _ => rfl
  | 46, _ => rfl
  | 47, _ => rfl
  | 48, _ => rfl
  | 49, _ => rfl
  | 50, _ => rfl
  | 51, _ => rfl
  | 52, _ => rfl
  | 53, _ => rfl
  | 54, _ => rfl
  | 55, _ => rfl
  | 56, _ => rfl
  | 57, _ => rfl
  | 58, _ => rfl
  | 59, _ => rfl
  | 60, _ => rfl
  | 61, _ => rfl
  | 62, _ => rfl
  | 63, _ => rfl
  | 64, _ => rfl
  | 65, _ => rfl
  | 66, _ => rfl
  | 67, _ => rw [act_67, uA_I, uA_I, uA_I, mk_I]; exact va_up_ne _ _ (by decide)
  | 68, _ => rfl
  | 69, _ => rfl
  | 70, _ => rfl
  | 71, _ => rfl
  | 72, _ => rfl
  | 73, _ => show sI (uI (if 200 ≤ sI κ 7 then κ else uA κ 10 (aN (sI κ 7)) (wd κ a)) 7 (sI κ 7 + 1)) 5 = _; split <;> rfl
  | n + 74, q => exact absurd q (by omega)
theorem act_I9 (κ : KS) (hd th : Int32) {k : Nat} (hk : k < 74) (a b c : Int32) : sI (act κ hd th k a b c) 9 = sI κ 9 := by
  match k, hk with
  | 0, _ => rfl
  | 1, _ => rfl
  | 2, _ => rfl
  | 3, _ => rfl
  | 4, _ => rfl
  | 5, _ => rfl
  | 6, _ => rfl
  | 7, _ => rfl
  | 8, _ => rfl
  | 9, _ => rfl
  | 10, _ => rfl
  | 11, _ => rfl
  | 12, _ => rfl
  | 13, _ => rfl
  | 14, _ => rfl
  | 15, _ => rfl
  | 16, _ => rfl
  | 17, _ => rfl
  | 18, _ => rfl
  | 19, _ => rfl
  | 20, _ => rfl
  | 21, _ => rfl
  | 22, _ => rfl
  | 23, _ => rfl
  | 24, _ => rfl
  | 25, _ => rfl
  | 26, _ => rfl
  | 27, _ => rfl
  | 28, _ => rfl
  | 29, _ => rfl
  | 30, _ => show sI (if sI κ 6 = 0 then uI κ 3 2 else uI κ 6 (sI κ 6 - 1)) 9 = _; split <;> rfl
  | 31, _ => rw [act_31, uA_I, mk_I]; exact va_up_ne _ _ (by decide)
  | 32, _ => rw [act_32, uA_I, mkR_I _ _ _ (by decide), mk_I]; exact va_up_ne _ _ (by decide)
  | 33, _ => rw [act_33, uA_I, uA_I, mk_I]; exact va_up_ne _ _ (by decide)
  | 34, _ => rfl
  | 35, _ => rfl
  | 36, _ => rfl
  | 37, _ => rfl
  | 38, _ => rfl
  | 39, _ => rfl
  | 40, _ => rfl
  | 41, _ => rfl
  | 42, _ => rfl
  | 43, _ => rfl
  | 44, _ => rfl
  | 45, _ => rfl
  | 46, _ => rfl
  | 47, _ => rfl
  | 48, _ => rfl
  | 49, _ => rfl
  | 50, _ => rfl
  | 51, _ => rfl
  | 52, _ => rfl
  | 53, _ => rfl
  | 54, _ => rfl
  | 55, _ => rfl
  | 56, _ => rfl
  | 57, _ => rfl
  | 58, _ => rfl
  | 59, _ => rfl
  | 60, _ => rfl
  | 61, _ => rfl
  | 62, _ => rfl
  | 63, _ => rfl
  | 64, _ => rfl
  | 65, _ => rfl
  | 66, _ => rfl
  | 67, _ => rw [act_67, uA_I, uA_I, uA_I, mk_I]; exact va_up_ne _ _ (by decide)
  | 68, _ => rfl
  | 69, _ => rfl
  | 70, _ => rfl
  | 71, _ => rfl
  | 72, _ => rfl
  | 73, _ => show sI (uI (if 200 ≤ sI κ 7 then κ else uA κ 10 (aN (sI κ 7)) (wd κ a)) 7 (sI κ 7 + 1)) 9 = _; split <;> rfl
  | n + 74, q => exact absurd q (by omega)
