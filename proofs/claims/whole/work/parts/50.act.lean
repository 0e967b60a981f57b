theorem INV.lt60 {B M : Nat} {κ : KS} {th : Int32} (h : INV B M κ th) (h3 : ¬ sI κ 2 = 60) : M < 60 := by
  have h1 := h.m60
  rcases Nat.lt_or_ge M 60 with q | q
  · exact q
  · exact absurd (by rw [h.i2, show M = 60 by omega]; rfl) h3
theorem INV.act {B M : Nat} {κ : KS} {th : Int32} (h : INV B M κ th) (hp : vp_in (sI κ 4) 200) (hd : Int32) {k : Nat} (hk : k < 74) {a b c : Int32} (hs : okStep k a b c) (hw : why κ k a b c = 0) : INV (B + 1) (M + mkN κ k b) (act κ hd th k a b c) th := by
  match k, hk, hs, hw with
  | 0, _, hs, hw => exact (h.I3 (by decide)).b (Nat.le_succ _)
  | 1, _, hs, hw => exact (h.A2 _ _).b (Nat.le_succ _)
  | 2, _, hs, hw => exact (h.J0 _ _).b (Nat.le_succ _)
  | 3, _, hs, hw => exact (h.A2 _ _).b (Nat.le_succ _)
  | 4, _, hs, hw => exact (h.A2 _ _).b (Nat.le_succ _)
  | 5, _, hs, hw => exact (h.A2 _ _).b (Nat.le_succ _)
  | 6, _, hs, hw => exact (h.A2 _ _).b (Nat.le_succ _)
  | 7, _, hs, hw => exact (h.A2 _ _).b (Nat.le_succ _)
  | 8, _, hs, hw => exact (h.A2 _ _).b (Nat.le_succ _)
  | 9, _, hs, hw => exact (h.J0 _ _).b (Nat.le_succ _)
  | 10, _, hs, hw => exact (h.J0 _ _).b (Nat.le_succ _)
  | 11, _, hs, hw => exact (h.J0 _ _).b (Nat.le_succ _)
  | 12, _, hs, hw => exact (h.J0 _ _).b (Nat.le_succ _)
  | 13, _, hs, hw => exact (h.J0 _ _).b (Nat.le_succ _)
  | 14, _, hs, hw => exact (h.A2 _ _).b (Nat.le_succ _)
  | 15, _, hs, hw => exact (h.F _ (l2f_B _)).b (Nat.le_succ _)
  | 16, _, hs, hw => exact (h.D 0 _ (l2d_B _)).b (Nat.le_succ _)
  | 17, _, hs, hw => exact (h.J0 _ _).b (Nat.le_succ _)
  | 18, _, hs, hw => exact (h.A2 _ _).b (Nat.le_succ _)
  | 19, _, hs, hw => exact (h.D 0 _ (f2d_B (h.i5.1 _))).b (Nat.le_succ _)
  | 20, _, hs, hw => exact (h.F _ (d2f_B (h.i5.2 _ _))).b (Nat.le_succ _)
  | 21, _, hs, hw => exact (h.F _ (fdiv_B (h.i5.1 _))).b (Nat.le_succ _)
  | 22, _, hs, hw => exact (h.D 0 _ (ddiv_B (h.i5.2 _ _))).b (Nat.le_succ _)
  | 23, _, hs, hw => exact (h.F _ (frem_B (h.i5.1 _) (h.i5.1 _) (y6 hw).1)).b (Nat.le_succ _)
  | 24, _, hs, hw => exact (h.D 0 _ (drem_B (h.i5.2 _ _) (h.i5.2 _ _) (y6 hw).1)).b (Nat.le_succ _)
  | 25, _, hs, hw => exact (h.A2 _ _).b (Nat.le_succ _)
  | 26, _, hs, hw => exact (h.A2 _ _).b (Nat.le_succ _)
  | 27, _, hs, hw => exact h.b (Nat.le_succ _)
  | 28, _, hs, hw => exact h.b (Nat.le_succ _)
  | 29, _, hs, hw => 
    obtain ⟨h1, _⟩ := y7 hw
    obtain ⟨n, hn, e⟩ := h.i6
    have hn2 : n < 12 := by
      rcases Nat.lt_or_ge n 12 with q | q
      · exact q
      · exact absurd (by rw [e, show n = 12 by omega]; rfl) h1
    show INV (B + 1) M (uI (uA κ 9 (aN (sI κ 6)) (sI κ 4)) 6 (sI κ 6 + 1)) th
    rw [e, nI_1]
    exact ((h.A9 _ hp).I6 (by omega)).b (Nat.le_succ _)
  | 30, _, hs, hw => 
    show INV (B + 1) M (if sI κ 6 = 0 then uI κ 3 2 else uI κ 6 (sI κ 6 - 1)) th
    by_cases h0 : sI κ 6 = 0
    · rw [if_pos h0]; exact (h.I3 (by decide)).b (Nat.le_succ _)
    · rw [if_neg h0]
      obtain ⟨n, hn, e⟩ := c0 h.i6 h0
      rw [e, nI_pred]; exact (h.I6 (by omega)).b (Nat.le_succ _)
  | 31, _, hs, hw => 
    obtain ⟨h1, hw⟩ := yE (by decide) hw
    obtain ⟨h2, hw⟩ := yE (by decide) hw
    obtain ⟨h3, _⟩ := y7 hw
    have hM : M < 60 := h.lt60 h3
    have hb2 : vp_in b 10 := hs.2.1
    have z := h.mkn hM (kd10 hb2).1 (in13 h2 h1) (fun q => absurd (kd10 hb2).2.1 q) (kd10 hb2).2.2
    have hv := vrN h.i2
    rw [act_31]
    show INV (B + 1) (M + 1) _ th
    generalize mk κ b (sA κ 2 (aN c)) = K at *
    exact (z.A3 _ hv).b (Nat.le_succ _)
  | 32, _, hs, hw => 
    obtain ⟨h1, hw⟩ := yE (by decide) hw
    obtain ⟨h2, hw⟩ := yE (by decide) hw
    obtain ⟨h3, hw⟩ := yE (by decide) hw
    obtain ⟨h4, hw⟩ := yE (by decide) hw
    obtain ⟨h5, _⟩ := yE (by decide) hw
    obtain ⟨M', rn, hM, hrn, hr6, h60⟩ := grid_nums h.m61 h3 h1 h5
    have hr13 : vp_in (sA κ 2 (aN b)) 13 := by rw [hrn]; exact vp_in_nI (by omega) (by decide)
    have hMM : M' = M := by
      have e1 := h.mN
      rw [hM, show aN (nI M') = M' from nI_clamp (by omega)] at e1
      exact e1
    subst hMM
    have z := h.mkn (show M' < 60 by omega) (kd := 10) (vp_in_nI (n := 10) (by decide) (by decide)) hr13 (fun q => absurd (by decide) q) (by decide)
    have hra : aN (sA κ 2 (aN b)) = rn := by rw [hrn]; exact nI_clamp (by omega)
    have z2 := INV.mkRn (sI κ 2) (sA κ 2 (aN c)) (in136 h4 h2) hM rn z (by omega) (by omega) (by omega)
    have hv : vr (M' + 1 + rn) (sI κ 2 + 1) := vr_le (vrN h.i2) (by omega)
    rw [act_32, hra]
    show INV (B + 1) (M' + (1 + aN (sA κ 2 (aN b)))) _ th
    rw [hra, show M' + (1 + rn) = M' + 1 + rn by omega]
    generalize mkR (mk κ 10 (sA κ 2 (aN b))) (sI κ 2) (sA κ 2 (aN c)) rn = K at *
    exact (z2.A3 _ hv).b (Nat.le_succ _)
  | 33, _, hs, hw => 
    obtain ⟨h3, _⟩ := y7 hw
    have hM : M < 60 := h.lt60 h3
    have hb2 : vp_in (b - 11) 4 := hs.2.1
    have z := h.mkt hM (kd11 hb2).1 v13_0 (fun _ => rfl) (tg := sA κ 2 (aN c)) (fun q => absurd q (kd11 hb2).2.1) (fun q => absurd q (kd11 hb2).2.2)
    have hv := vrN h.i2
    have hN := h.mN
    rw [act_33]
    show INV (B + 1) (M + 1) _ th
    generalize mk κ b 0 = K at *
    rw [uA_comm _ _ _ _ _ (by decide), hN]
    exact (z.A3 _ hv).b (Nat.le_succ _)
  | 34, _, hs, hw => exact (h.A3 _ (h.i3 _)).b (Nat.le_succ _)
  | 35, _, hs, hw => exact (h.A3 _ (vr0 _)).b (Nat.le_succ _)
  | 36, _, hs, hw => exact (h.A2 _ _).b (Nat.le_succ _)
  | 37, _, hs, hw => exact (h.A2 _ _).b (Nat.le_succ _)
  | 38, _, hs, hw => exact (h.A2 _ _).b (Nat.le_succ _)
  | 39, _, hs, hw => exact (h.A2 _ _).b (Nat.le_succ _)
  | 40, _, hs, hw => exact (h.A2 _ _).b (Nat.le_succ _)
  | 41, _, hs, hw => exact (h.A2 _ _).b (Nat.le_succ _)
  | 42, _, hs, hw => exact (h.A2 _ _).b (Nat.le_succ _)
  | 43, _, hs, hw => exact (h.A2 _ _).b (Nat.le_succ _)
  | 44, _, hs, hw => exact (h.J0 _ _).b (Nat.le_succ _)
  | 45, _, hs, hw => exact (h.F _ (d2f_B (h.i5.2 _ _))).b (Nat.le_succ _)
  | 46, _, hs, hw => exact (h.D 0 _ (h.i5.2 _ _)).b (Nat.le_succ _)
  | 47, _, hs, hw => 
    obtain ⟨h1, h2, h3, _⟩ := yG hw
    obtain ⟨kk, j, hk2, hj, _, e⟩ := h.row h2 h3
    refine (h.A3 _ ?_).b (Nat.le_succ _)
    show vr M (sA κ 6 (aN (12 * (sA κ 3 (aN b) - 1) + sA κ 2 (aN c))))
    rw [e]
    exact ((h.i4 kk hk2).2.2.2.2.2.2.2 j hj).1
  | 48, _, hs, hw => 
    obtain ⟨h1, h2, h3, _⟩ := yG hw
    obtain ⟨kk, j, hk2, hj, _, e⟩ := h.row h2 h3
    refine (h.A3 _ ?_).b (Nat.le_succ _)
    show vr M (sA κ 6 (aN (12 * (sA κ 3 (aN b) - 1) + sA κ 2 (aN c))))
    rw [e]
    exact ((h.i4 kk hk2).2.2.2.2.2.2.2 j hj).1
  | 49, _, hs, hw => exact (h.J1 _ _).b (Nat.le_succ _)
  | 50, _, hs, hw => exact (h.J1 _ _).b (Nat.le_succ _)
  | 51, _, hs, hw => exact (h.J1 _ _).b (Nat.le_succ _)
  | 52, _, hs, hw => exact (h.J1 _ _).b (Nat.le_succ _)
  | 53, _, hs, hw => exact (h.J1 _ _).b (Nat.le_succ _)
  | 54, _, hs, hw => exact (h.J1 _ _).b (Nat.le_succ _)
  | 55, _, hs, hw => exact (h.D 1 _ (f2d_B (h.i5.1 _))).b (Nat.le_succ _)
  | 56, _, hs, hw => exact (h.D 1 _ (h.i5.2 _ _)).b (Nat.le_succ _)
  | 57, _, hs, hw => 
    obtain ⟨h1, hw⟩ := y4 hw
    obtain ⟨h1a, hw⟩ := y4 hw
    obtain ⟨h2, hw⟩ := y1 hw
    obtain ⟨h3, hw⟩ := yE (by decide) hw
    obtain ⟨kk, j, hk2, hj, ek, e⟩ := h.row h2 h3
    show INV (B + 1) M (uA κ 6 (aN (12 * (sA κ 3 (aN b) - 1) + sA κ 2 (aN c))) (sA κ 3 (aN a))) th
    rw [e]
    refine (h.A6 hk2 hj (h.i3 _) (fun h10 => ?_)).b (Nat.le_succ _)
    rw [ek] at h10
    exact absurd h10 (of8 (Classical.not_not.mp (fun q => h1 ⟨h2, q⟩)))
  | 58, _, hs, hw => 
    obtain ⟨h1, hw⟩ := y4 hw
    obtain ⟨h1a, hw⟩ := y4 hw
    obtain ⟨h2, hw⟩ := y1 hw
    obtain ⟨h3, hw⟩ := yE (by decide) hw
    obtain ⟨kk, j, hk2, hj, ek, e⟩ := h.row h2 h3
    show INV (B + 1) M (uA κ 6 (aN (12 * (sA κ 3 (aN b) - 1) + sA κ 2 (aN c))) (sA κ 3 (aN a))) th
    rw [e]
    exact (h.A6 hk2 hj (h.i3 _) (fun _ h0 => of4 (Classical.not_not.mp (fun q => h1a ⟨h0, q⟩)))).b (Nat.le_succ _)
  | 59, _, hs, hw => exact (h.A2 _ _).b (Nat.le_succ _)
  | 60, _, hs, hw => 
    obtain ⟨h1, h2⟩ := yK hw
    have hn := knot11 (Classical.not_not.mp (fun q => h1 ⟨h2, q⟩))
    exact (h.A7 _ (knotR hn).1 (Or.inl (knotR hn).2)).b (Nat.le_succ _)
  | 61, _, hs, hw => exact (h.J0 _ _).b (Nat.le_succ _)
  | 62, _, hs, hw => 
    obtain ⟨h1, h2⟩ := yK hw
    exact (h.J2 _ _ (knot11 (Classical.not_not.mp (fun q => h1 ⟨h2, q⟩)))).b (Nat.le_succ _)
  | 63, _, hs, hw => 
    obtain ⟨h1, h2⟩ := yK hw
    exact (h.A3 _ (h.i4 _ (h.reg h2).2).2.2.2.2.2.2.1).b (Nat.le_succ _)
  | 64, _, hs, hw => exact (h.A8 _ (h.i3 _)).b (Nat.le_succ _)
  | 65, _, hs, hw => exact (h.A2 _ _).b (Nat.le_succ _)
  | 66, _, hs, hw => exact (h.A2 _ _).b (Nat.le_succ _)
  | 67, _, hs, hw => 
    obtain ⟨h1, hw⟩ := y4 hw
    obtain ⟨h3, _⟩ := y7 hw
    have hM : M < 60 := h.lt60 h3
    have z := h.mkt hM (kd := 15) (vp_in_nI (n := 15) (by decide) (by decide)) v13_0 (fun _ => rfl) (tg := 8 + (sA κ 2 (aN b) &&& 15)) (fun q => absurd q (by decide)) (fun _ => tag8 _)
    have hv := vrN h.i2
    have hN := h.mN
    have hc := vr_le (h.i3 (aN c)) (Nat.le_succ M)
    rw [act_67]
    show INV (B + 1) (M + 1) _ th
    generalize mk κ 15 0 = K at *
    rw [uA_comm (k := 3) (k' := 7) _ _ _ _ _ (by decide), hN]
    exact ((z.A3 _ hv).A8 _ hc).b (Nat.le_succ _)
  | 68, _, hs, hw => exact h.b (Nat.le_succ _)
  | 69, _, hs, hw => exact (h.A3 _ h.it).b (Nat.le_succ _)
  | 70, _, hs, hw => exact (h.A2 _ _).b (Nat.le_succ _)
  | 71, _, hs, hw => 
    obtain ⟨h2, h1⟩ := y1 hw
    exact (h.A3 _ (h.i4 _ (h.reg h2).2).2.2.2.2.2.2.1).b (Nat.le_succ _)
  | 72, _, hs, hw => exact (h.A2 _ _).b (Nat.le_succ _)
  | 73, _, hs, hw => 
    show INV (B + 1) M (uI (if 200 ≤ sI κ 7 then κ else uA κ 10 (aN (sI κ 7)) (sA κ 2 (aN a))) 7 (sI κ 7 + 1)) th
    by_cases h0 : 200 ≤ sI κ 7
    · rw [if_pos h0]; exact h.I7
    · rw [if_neg h0]; exact (h.A10 _ _).I7
  | n + 74, q, _, _ => exact absurd q (by omega)
