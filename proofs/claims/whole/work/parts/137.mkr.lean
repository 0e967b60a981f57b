theorem mkR_S (κ : KS) (g pl : Int32) (i : Nat) (j : Int32) (i2 : Nat) (hj : j = nI i) (h2 : i2 = i + 1) : uA (mk (mkR κ g pl i) 4 pl) 6 (aN (12 * g + j)) (sI (mkR κ g pl i) 2 + 1) = mkR κ g pl i2 := by
  subst hj
  subst h2
  rfl
theorem act32 {κ : KS} {hd th a b c r : Int32} {n : Nat} (h : sA κ 2 (aN b) = r) (hn : aN r = n) : act κ hd th 32 a b c = uA (mkR (mk κ 10 r) (sI κ 2) (sA κ 2 (aN c)) n) 3 (aN a) (sI κ 2 + 1) := by
  show uA (mkR (mk κ 10 (sA κ 2 (aN b))) (sI κ 2) (sA κ 2 (aN c)) (aN (sA κ 2 (aN b)))) 3 (aN a) (sI κ 2 + 1) = _
  rw [h, hn]
