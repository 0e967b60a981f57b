def gAt (κ : KS) (fd : Int32) : Int32 := if 0 ≤ fd then sA κ 1 (aN ((4 * fd) + 3)) else -1
theorem gAt_nn {κ : KS} {hm : Nat} (h16 : hm ≤ 16) (hA : ∀ k, k < hm → vp_in (sA κ 1 (4 * k + 3)) 200) {fd : Int32} (h : ∃ j, j < hm ∧ fd = nI j) : 0 ≤ gAt κ fd := by
  obtain ⟨j, hj, e⟩ := h
  unfold gAt
  rw [if_pos (by rw [e]; exact nI_pos' (by omega)), (a4 e (by omega)).2.2.2]
  exact Int32.not_lt.mp (fun q => hA j hj (Or.inl q))
theorem fAt_fSeek (κ : KS) (f : Int32) (hm : Nat) (h16 : hm ≤ 16) (hA : ∀ k, k < hm → vp_in (sA κ 1 (4 * k + 3)) 200) : ∀ (n : Nat) (fd : Int32), (0 ≤ fd → ∃ j, j < hm ∧ fd = nI j) → fAt κ f hm n (gAt κ fd) = (gAt κ (fSeek κ f hm n fd).1, (fSeek κ f hm n fd).2)
  | 0, fd, _ => rfl
  | n + 1, fd, hfd => by
    show (if 0 ≤ gAt κ fd then (gAt κ fd, n + 1) else fAt κ f hm n (hAt κ (sA κ 9 n) f hm 0)) = _
    by_cases h0 : 0 ≤ fd
    · rw [if_pos (gAt_nn h16 hA (hfd h0))]
      have e : fSeek κ f hm (n + 1) fd = (fd, n + 1) := if_pos h0
      rw [e]
    · have hg : gAt κ fd = -1 := if_neg h0
      rw [hg, if_neg (by decide)]
      have e : fSeek κ f hm (n + 1) fd = fSeek κ f hm n (hSeek κ (sA κ 9 n) f hm 0) := if_neg h0
      rw [e, hAt_eq κ (sA κ 9 n) f hm 0 0 rfl (by omega)]
      exact fAt_fSeek κ f hm h16 hA n _ (fun q => by
        obtain ⟨j, hj, e2⟩ := hSeek_in κ (sA κ 9 n) f hm 0 0 rfl q
        exact ⟨j, by omega, e2⟩)
theorem fAtR_fR {κ : KS} (h1 : I1 (sI κ 1) (sA κ 1)) (f : Int32) : fAtR κ f = (gAt κ (fR κ f).1, (fR κ f).2) := by
  obtain ⟨hm, h16, e, hA⟩ := h1
  have ea : aN (sI κ 1) = hm := by rw [e]; exact nI_clamp (by omega)
  unfold fAtR fR
  rw [ea, hAt_eq κ (sI κ 4) f hm 0 0 rfl (by omega)]
  exact fAt_fSeek κ f hm h16 hA _ _ (fun q => by
    obtain ⟨j, hj, e2⟩ := hSeek_in κ (sI κ 4) f hm 0 0 rfl q
    exact ⟨j, by omega, e2⟩)
theorem fAtR_5 (κ : KS) (v f : Int32) : fAtR (uI κ 5 v) f = fAtR κ f := by
  unfold fAtR
  rw [hAt_cg (κ := κ) (κ' := uI κ 5 v) rfl]
  exact fAt_cg (κ := κ) (κ' := uI κ 5 v) rfl rfl f _ _ _
theorem fK_5 (κ : KS) (v f : Int32) : fK (uI κ 5 v) f = uI (fK κ f) 5 v := by
  unfold fK
  rw [show sI (uI κ 5 v) 8 = sI κ 8 from rfl, show sI (uI κ 5 v) 4 = sI κ 4 from rfl, uI_comm κ (show (5 : Nat) ≠ 8 by decide), uI_comm _ (show (5 : Nat) ≠ 9 by decide), uI_comm _ (show (5 : Nat) ≠ 10 by decide)]
/-- going to a place n that is not below 0: as the reference does it -/
theorem goK_o3 {K : KS} {n v : Int32} (h3 : sI K 3 = 1) (hn : 0 ≤ n) : goK (uI K 5 v) n = uI (uI (uI K 5 v) 4 n) 3 (if sI K 0 ≤ n then 2 else 1) := by
  unfold goK
  rw [if_pos hn, show sI (uI K 5 v) 0 = sI K 0 from rfl]
  by_cases h : sI K 0 ≤ n
  · rw [if_pos h, if_pos h]
  · rw [if_neg h, if_neg h]
    exact (uI_self _ (by exact h3)).symm
theorem o3_1 {K : KS} {t : Nat → Int32} (h : sI K 3 = 1) : o3 (K, t) = (uI (uI (uI K 5 (sI K 5 + 1)) 4 (t 3)) 3 (if sI K 0 ≤ t 3 then 2 else 1), t) := if_pos h
theorem o3_0 {K : KS} {t : Nat → Int32} (h : ¬ sI K 3 = 1) : o3 (K, t) = (uI K 5 (sI K 5 + 1), t) := if_neg h
theorem pne_0 {κ : KS} {t : Nat → Int32} (h : oF κ = 0) : pne (κ, t) = o3 (act κ (t 4) (t 5) (oK κ) (oA κ) (oB κ) (oC κ), va_up (t1 κ t) 3 (nxt κ (oK κ) (oA κ) (oB κ) (sI κ 4 + 1))) := congrArg o3 (if_pos h)
def tF (κ : KS) (t : Nat → Int32) : Nat → Int32 := va_up (va_up (va_up (t1 κ t) 4 (oF κ)) 5 (if oO κ = 68 ∧ 8 ≤ oF κ then sA κ 3 (aN (oA κ)) else 0)) 3 (sA κ 1 (aN ((4 * (fR κ (oF κ)).1) + 3)))
theorem pne_f {κ : KS} {t : Nat → Int32} (h : ¬ oF κ = 0) (hf : 0 ≤ (fR κ (oF κ)).1) : pne (κ, t) = o3 (uI (fK κ (oF κ)) 6 (nI (fR κ (oF κ)).2), tF κ t) := by
  have e1 : failK κ (oF κ) = uI (fK κ (oF κ)) 6 (nI (fR κ (oF κ)).2) := if_pos hf
  have e2 : failU κ (t1 κ t) (oO κ) (oF κ) = tF κ t := if_pos hf
  have e3 : p2 κ t = (failK κ (oF κ), failU κ (t1 κ t) (oO κ) (oF κ)) := if_neg h
  show o3 (p2 κ t) = _
  rw [e3, e1, e2]
theorem pne_s {κ : KS} {t : Nat → Int32} (h : ¬ oF κ = 0) (hf : ¬ 0 ≤ (fR κ (oF κ)).1) : pne (κ, t) = o3 (uI (uI (fK κ (oF κ)) 6 (nI (fR κ (oF κ)).2)) 3 3, t1 κ t) := by
  have e1 : failK κ (oF κ) = uI (uI (fK κ (oF κ)) 6 (nI (fR κ (oF κ)).2)) 3 3 := if_neg hf
  have e2 : failU κ (t1 κ t) (oO κ) (oF κ) = t1 κ t := if_neg hf
  have e3 : p2 κ t = (failK κ (oF κ), failU κ (t1 κ t) (oO κ) (oF κ)) := if_neg h
  show o3 (p2 κ t) = _
  rw [e3, e1, e2]
theorem tF_3 (κ : KS) (t : Nat → Int32) : tF κ t 3 = sA κ 1 (aN ((4 * (fR κ (oF κ)).1) + 3)) := rfl
theorem s33 (K : KS) : ¬ sI (uI K 3 3) 3 = 1 := by show ¬ (3 : Int32) = 1; decide
theorem dX_pne {B M : Nat} {κ : KS} {t : Nat → Int32} (h : INV B M κ (t 5)) (h3 : sI κ 3 = 1) : dX κ (t 4) (t 5) (oK κ) (oA κ) (oB κ) (oC κ) = (pne (κ, t)).1 := by
  obtain ⟨p, mn, hp, hmn, h0, h4, hk, hO, hok, _⟩ := oFacts h h3
  have hwe : why (s1 κ) (oK κ) (oA κ) (oB κ) (oC κ) = oF κ := why_5 _ _ _ _ _ _
  have hne : nxt (s1 κ) (oK κ) (oA κ) (oB κ) (sI κ 4 + 1) = nxt κ (oK κ) (oA κ) (oB κ) (sI κ 4 + 1) := nxt_5 _ _ _ _ _ _
  have hae : act (s1 κ) (t 4) (t 5) (oK κ) (oA κ) (oB κ) (oC κ) = uI (act κ (t 4) (t 5) (oK κ) (oA κ) (oB κ) (oC κ)) 5 (sI κ 5 + 1) := act_5 _ _ _ _ hk _ _ _
  have h5 := act_I5 κ (t 4) (t 5) hk (oA κ) (oB κ) (oC κ)
  unfold dX
  rw [hwe, hne, hae]
  by_cases hF : oF κ = 0
  · rw [if_pos hF, pne_0 hF]
    obtain ⟨j, hj, ej⟩ := nxt_in h h3
    generalize act κ (t 4) (t 5) (oK κ) (oA κ) (oB κ) (oC κ) = K at *
    generalize nxt κ (oK κ) (oA κ) (oB κ) (sI κ 4 + 1) = n at *
    rw [show sI (uI K 5 (sI κ 5 + 1)) 3 = sI K 3 from rfl, ← h5]
    by_cases hK : sI K 3 = 1
    · rw [if_pos hK, o3_1 hK]
      exact goK_o3 hK (by rw [ej]; exact nI_pos' (by omega))
    · rw [if_neg hK, o3_0 hK]
  · rw [if_neg hF]
    unfold failX
    rw [fAtR_5, fK_5, fAtR_fR h.i1]
    obtain ⟨hm, h16, e1, hA⟩ := h.i1
    by_cases hf : 0 ≤ (fR κ (oF κ)).1
    · have hg := gAt_nn h16 hA (fR_in e1 h16 hf)
      have hge : gAt κ (fR κ (oF κ)).1 = sA κ 1 (aN ((4 * (fR κ (oF κ)).1) + 3)) := if_pos hf
      rw [if_pos hg, pne_f hF hf, uI_comm _ (show (5 : Nat) ≠ 6 by decide)]
      have h3' : sI (uI (fK κ (oF κ)) 6 (nI (fR κ (oF κ)).2)) 3 = 1 := h3
      have h5' : sI κ 5 = sI (uI (fK κ (oF κ)) 6 (nI (fR κ (oF κ)).2)) 5 := rfl
      rw [h5', goK_o3 h3' hg, o3_1 h3', hge]
      exact Eq.refl _
    · have hg : gAt κ (fR κ (oF κ)).1 = -1 := if_neg hf
      rw [hg, if_neg (show ¬ (0 : Int32) ≤ -1 by decide), pne_s hF hf, o3_0 (s33 _), uI_comm _ (show (5 : Nat) ≠ 6 by decide), uI_comm _ (show (5 : Nat) ≠ 3 by decide)]
      exact Eq.refl _
/-- the class's fault, and its latest failure, are the reference's while the run goes on -/
def RLk (κ : KS) (t : Nat → Int32) (τ : TAU) : Prop := sI κ 3 = 1 → t 4 = sI κ 9 ∧ τ.2.2.2 = rT (t 5)
theorem RL_pne {B M : Nat} {κ : KS} {t : Nat → Int32} {τ τ' : TAU} (h : INV B M κ (t 5)) (h3 : sI κ 3 = 1) (hr : RLk κ t τ) (ht : τ'.2.2.2 = thX κ τ.2.2.2 (oK κ) (oA κ) (oB κ) (oC κ)) : RLk (pne (κ, t)).1 (pne (κ, t)).2 τ' := by
  obtain ⟨p, mn, hp, hmn, h0, h4, hk, hO, hok, _⟩ := oFacts h h3
  obtain ⟨r4, r5⟩ := hr h3
  have hwe : why (s1 κ) (oK κ) (oA κ) (oB κ) (oC κ) = oF κ := why_5 _ _ _ _ _ _
  have h9 := act_I9 κ (t 4) (t 5) hk (oA κ) (oB κ) (oC κ)
  unfold thX at ht
  rw [hwe] at ht
  by_cases hF : oF κ = 0
  · rw [if_pos hF] at ht
    rw [pne_0 hF]
    generalize act κ (t 4) (t 5) (oK κ) (oA κ) (oB κ) (oC κ) = K at *
    by_cases hK : sI K 3 = 1
    · rw [o3_1 hK]
      intro _
      exact ⟨r4.trans h9.symm, ht.trans r5⟩
    · rw [o3_0 hK]
      exact fun hs => absurd hs hK
  · rw [if_neg hF] at ht
    by_cases hf : 0 ≤ (fR κ (oF κ)).1
    · rw [pne_f hF hf, o3_1 (show sI (uI (fK κ (oF κ)) 6 (nI (fR κ (oF κ)).2)) 3 = 1 from h3)]
      intro _
      refine ⟨rfl, ht.trans ?_⟩
      show thrX (s1 κ) (oF κ) (oA κ) = rT (if oO κ = 68 ∧ 8 ≤ oF κ then sA κ 3 (aN (oA κ)) else 0)
      unfold thrX
      by_cases h8 : oF κ < 8
      · rw [if_pos h8, if_neg (fun q => Int32.not_le.mpr h8 q.2)]; rfl
      · have h8' : 8 ≤ oF κ := Int32.not_lt.mp h8
        rw [if_neg h8, if_pos ⟨by rw [hO, why_8 hk h8']; rfl, h8'⟩]; rfl
    · rw [pne_s hF hf, o3_0 (s33 _)]
      exact fun hs => absurd hs (show ¬ (3 : Int32) = 1 by decide)
/-- how many things a step makes -/
def nM (κ : KS) : Nat := if oF κ = 0 then mkN κ (oK κ) (oB κ) else 0
theorem INV.go {B M : Nat} {K : KS} {th n : Int32} (h : INV B M K th) {j : Nat} (hj : j ≤ 200) (e : n = nI j) : INV B M (uI (uI K 4 n) 3 (if sI K 0 ≤ n then 2 else 1)) th := by
  refine ⟨h.i0, h.i1, ⟨h.m60, h.i2⟩, h.i3, h.i4, h.i5, h.i6, h.i7, h.i8, fun q => ?_, h.it, h.i11⟩
  have q : (if sI K 0 ≤ n then (2 : Int32) else 1) = 1 := q
  refine ⟨j, e, ?_⟩
  show j < aN (sI K 0)
  obtain ⟨mn, hmn, h0, _⟩ := h.i0
  rw [h0, show aN (nI mn) = mn from nI_clamp (by omega)]
  by_cases hl : sI K 0 ≤ n
  · rw [if_pos hl] at q; exact absurd q (by decide)
  · rcases Nat.lt_or_ge j mn with q2 | q2
    · exact q2
    · exact absurd (by rw [h0, e]; exact nI_le q2 (by omega)) hl
theorem INV_step {B M : Nat} {κ : KS} {t : Nat → Int32} (h : INV B M κ (t 5)) (h3 : sI κ 3 = 1) : INV (B + 1) (M + nM κ) (pne (κ, t)).1 ((pne (κ, t)).2 5) := by
  obtain ⟨p, mn, hp, hmn, h0, h4, hk, hO, hok, _⟩ := oFacts h h3
  unfold nM
  by_cases hF : oF κ = 0
  · rw [if_pos hF, pne_0 hF]
    have z := h.act (by rw [h4]; exact vp_in_nI (by omega) (by decide)) (t 4) hk hok hF
    obtain ⟨j, hj, ej⟩ := nxt_in h h3
    generalize act κ (t 4) (t 5) (oK κ) (oA κ) (oB κ) (oC κ) = K at *
    generalize nxt κ (oK κ) (oA κ) (oB κ) (sI κ 4 + 1) = n at *
    by_cases hK : sI K 3 = 1
    · rw [o3_1 hK]
      exact (z.I5 _).go hj ej
    · rw [o3_0 hK]
      exact z.I5 _
  · rw [if_neg hF]
    have z : INV (B + 1) M (fK κ (oF κ)) (t 5) := ((((h.I8 _).I9 _).I10 _)).b (Nat.le_succ _)
    have hle : (fR κ (oF κ)).2 ≤ 12 := by
      obtain ⟨n, hn, e⟩ := h.i6
      refine Nat.le_trans (fSeek_le κ _ _ _ _) ?_
      rw [e, show aN (nI n) = n from nI_clamp (by omega)]; exact hn
    by_cases hf : 0 ≤ (fR κ (oF κ)).1
    · rw [pne_f hF hf, o3_1 (show sI (uI (fK κ (oF κ)) 6 (nI (fR κ (oF κ)).2)) 3 = 1 from h3)]
      obtain ⟨hm, h16, e1, hA⟩ := h.i1
      obtain ⟨j, hj, e⟩ := fR_in e1 h16 hf
      obtain ⟨a, ha, ea⟩ := vp_in_of (hA j hj) (by decide)
      have hat : tF κ t 3 = nI a := by rw [tF_3, (a4 e (by omega)).2.2.2]; exact ea
      have z2 := ((z.I6 hle).I5 (sI (uI (fK κ (oF κ)) 6 (nI (fR κ (oF κ)).2)) 5 + 1)).go (n := tF κ t 3) (show a ≤ 200 by omega) hat
      have hv : vr M (if oO κ = 68 ∧ 8 ≤ oF κ then sA κ 3 (aN (oA κ)) else 0) := by
        split
        · exact h.i3 _
        · exact vr0 _
      exact ⟨z2.i0, z2.i1, ⟨z2.m60, z2.i2⟩, z2.i3, z2.i4, z2.i5, z2.i6, z2.i7, z2.i8, z2.i9, hv, z2.i11⟩
    · rw [pne_s hF hf, o3_0 (s33 _)]
      exact ((z.I6 hle).I3 (by decide)).I5 _
