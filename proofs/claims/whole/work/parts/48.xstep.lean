set_option maxHeartbeats 4000000 in
set_option maxRecDepth 100000 in
theorem c_X4_perform (l : Launch) {D : va_G} {q : Nat → ClassId} {ad : Nat → Nat} {κ : KS} {τ : TAU} (sz : Nat) (ρ k : Nat) (hk : k < 74) (o xa xb xc hd th : Int32) (ho : o = nI k) (hst : stepAt q ad κ τ ρ o xa xb xc) (hs : okStep k xa xb xc)(hX : WFx κ) (hm : vp_in (sI κ 2) 61) (hF : WFa κ τ (aN (sI κ 2))) (hρ : 400 ≤ ρ) (hB : FB κ) (hc6 : ∃ n, n ≤ 12 ∧ sI κ 6 = nI n) (hT : ¬ sI κ 7 < 0) (hhd : hd = sI κ 9) (hth : τ.2.2.2 = rT th) (hthv : ¬ th = 0 → aN (th - 1) < aN (sI κ 2)) (g : Nat) (hg : why κ k xa xb xc = 0 → mkN κ k xb ≤ g) : Met l yX4_perform wsX4_perform (rmc 4 99 (4 * g) (44 * g)) (va_Pc [.ref (ad 3), .ref (ad ρ)] (rPre D q (wX q ad κ τ) sz)) (va_Qi (fun (r : Int32) (u : KS × TAU × (Nat → Nat)) => ((r, u.1) = doR κ hd th k xa xb xc ∧ ∃ v, u.2.1 = (τ.1, τ.2.1, v, τ.2.2.2) ∧ (r = 0 → v = nxt κ k xa xb τ.2.2.1)) ∧ ∀ i, lvX κ i → u.2.2 i = ad i) (fun (u : KS × TAU × (Nat → Nat)) tt => rPo D (rA (wX q ad κ τ) sz) (wX q u.2.2 u.1 u.2.1) tt) (rA (wX q ad κ τ) sz)) (4 * g) (44 * g) (rA (wX q ad κ τ) sz) := by
  subst ho
  match k, hk, hst, hs, hg with
  | 0, _, hst, hs, hg => exact c_X4_perform_0 l sz ρ xa xb xc hd th hst hs hX hm hF hρ hB hc6 hT hhd hth hthv g hg
  | 1, _, hst, hs, hg => exact c_X4_perform_1 l sz ρ xa xb xc hd th hst hs hX hm hF hρ hB hc6 hT hhd hth hthv g hg
  | 2, _, hst, hs, hg => exact c_X4_perform_2 l sz ρ xa xb xc hd th hst hs hX hm hF hρ hB hc6 hT hhd hth hthv g hg
  | 3, _, hst, hs, hg => exact c_X4_perform_3 l sz ρ xa xb xc hd th hst hs hX hm hF hρ hB hc6 hT hhd hth hthv g hg
  | 4, _, hst, hs, hg => exact c_X4_perform_4 l sz ρ xa xb xc hd th hst hs hX hm hF hρ hB hc6 hT hhd hth hthv g hg
  | 5, _, hst, hs, hg => exact c_X4_perform_5 l sz ρ xa xb xc hd th hst hs hX hm hF hρ hB hc6 hT hhd hth hthv g hg
  | 6, _, hst, hs, hg => exact c_X4_perform_6 l sz ρ xa xb xc hd th hst hs hX hm hF hρ hB hc6 hT hhd hth hthv g hg
  | 7, _, hst, hs, hg => exact c_X4_perform_7 l sz ρ xa xb xc hd th hst hs hX hm hF hρ hB hc6 hT hhd hth hthv g hg
  | 8, _, hst, hs, hg => exact c_X4_perform_8 l sz ρ xa xb xc hd th hst hs hX hm hF hρ hB hc6 hT hhd hth hthv g hg
  | 9, _, hst, hs, hg => exact c_X4_perform_9 l sz ρ xa xb xc hd th hst hs hX hm hF hρ hB hc6 hT hhd hth hthv g hg
  | 10, _, hst, hs, hg => exact c_X4_perform_10 l sz ρ xa xb xc hd th hst hs hX hm hF hρ hB hc6 hT hhd hth hthv g hg
  | 11, _, hst, hs, hg => exact c_X4_perform_11 l sz ρ xa xb xc hd th hst hs hX hm hF hρ hB hc6 hT hhd hth hthv g hg
  | 12, _, hst, hs, hg => exact c_X4_perform_12 l sz ρ xa xb xc hd th hst hs hX hm hF hρ hB hc6 hT hhd hth hthv g hg
  | 13, _, hst, hs, hg => exact c_X4_perform_13 l sz ρ xa xb xc hd th hst hs hX hm hF hρ hB hc6 hT hhd hth hthv g hg
  | 14, _, hst, hs, hg => exact c_X4_perform_14 l sz ρ xa xb xc hd th hst hs hX hm hF hρ hB hc6 hT hhd hth hthv g hg
  | 15, _, hst, hs, hg => exact c_X4_perform_15 l sz ρ xa xb xc hd th hst hs hX hm hF hρ hB hc6 hT hhd hth hthv g hg
  | 16, _, hst, hs, hg => exact c_X4_perform_16 l sz ρ xa xb xc hd th hst hs hX hm hF hρ hB hc6 hT hhd hth hthv g hg
  | 17, _, hst, hs, hg => exact c_X4_perform_17 l sz ρ xa xb xc hd th hst hs hX hm hF hρ hB hc6 hT hhd hth hthv g hg
  | 18, _, hst, hs, hg => exact c_X4_perform_18 l sz ρ xa xb xc hd th hst hs hX hm hF hρ hB hc6 hT hhd hth hthv g hg
  | 19, _, hst, hs, hg => exact c_X4_perform_19 l sz ρ xa xb xc hd th hst hs hX hm hF hρ hB hc6 hT hhd hth hthv g hg
  | 20, _, hst, hs, hg => exact c_X4_perform_20 l sz ρ xa xb xc hd th hst hs hX hm hF hρ hB hc6 hT hhd hth hthv g hg
  | 21, _, hst, hs, hg => exact c_X4_perform_21 l sz ρ xa xb xc hd th hst hs hX hm hF hρ hB hc6 hT hhd hth hthv g hg
  | 22, _, hst, hs, hg => exact c_X4_perform_22 l sz ρ xa xb xc hd th hst hs hX hm hF hρ hB hc6 hT hhd hth hthv g hg
  | 23, _, hst, hs, hg => exact c_X4_perform_23 l sz ρ xa xb xc hd th hst hs hX hm hF hρ hB hc6 hT hhd hth hthv g hg
  | 24, _, hst, hs, hg => exact c_X4_perform_24 l sz ρ xa xb xc hd th hst hs hX hm hF hρ hB hc6 hT hhd hth hthv g hg
  | 25, _, hst, hs, hg => exact c_X4_perform_25 l sz ρ xa xb xc hd th hst hs hX hm hF hρ hB hc6 hT hhd hth hthv g hg
  | 26, _, hst, hs, hg => exact c_X4_perform_26 l sz ρ xa xb xc hd th hst hs hX hm hF hρ hB hc6 hT hhd hth hthv g hg
  | 27, _, hst, hs, hg => exact c_X4_perform_27 l sz ρ xa xb xc hd th hst hs hX hm hF hρ hB hc6 hT hhd hth hthv g hg
  | 28, _, hst, hs, hg => exact c_X4_perform_28 l sz ρ xa xb xc hd th hst hs hX hm hF hρ hB hc6 hT hhd hth hthv g hg
  | 29, _, hst, hs, hg => exact c_X4_perform_29 l sz ρ xa xb xc hd th hst hs hX hm hF hρ hB hc6 hT hhd hth hthv g hg
  | 30, _, hst, hs, hg => exact c_X4_perform_30 l sz ρ xa xb xc hd th hst hs hX hm hF hρ hB hc6 hT hhd hth hthv g hg
  | 31, _, hst, hs, hg => exact c_X4_perform_31 l sz ρ xa xb xc hd th hst hs hX hm hF hρ hB hc6 hT hhd hth hthv g hg
  | 32, _, hst, hs, hg => exact c_X4_perform_32 l sz ρ xa xb xc hd th hst hs hX hm hF hρ hB hc6 hT hhd hth hthv g hg
  | 33, _, hst, hs, hg => exact c_X4_perform_33 l sz ρ xa xb xc hd th hst hs hX hm hF hρ hB hc6 hT hhd hth hthv g hg
  | 34, _, hst, hs, hg => exact c_X4_perform_34 l sz ρ xa xb xc hd th hst hs hX hm hF hρ hB hc6 hT hhd hth hthv g hg
  | 35, _, hst, hs, hg => exact c_X4_perform_35 l sz ρ xa xb xc hd th hst hs hX hm hF hρ hB hc6 hT hhd hth hthv g hg
  | 36, _, hst, hs, hg => exact c_X4_perform_36 l sz ρ xa xb xc hd th hst hs hX hm hF hρ hB hc6 hT hhd hth hthv g hg
  | 37, _, hst, hs, hg => exact c_X4_perform_37 l sz ρ xa xb xc hd th hst hs hX hm hF hρ hB hc6 hT hhd hth hthv g hg
  | 38, _, hst, hs, hg => exact c_X4_perform_38 l sz ρ xa xb xc hd th hst hs hX hm hF hρ hB hc6 hT hhd hth hthv g hg
  | 39, _, hst, hs, hg => exact c_X4_perform_39 l sz ρ xa xb xc hd th hst hs hX hm hF hρ hB hc6 hT hhd hth hthv g hg
  | 40, _, hst, hs, hg => exact c_X4_perform_40 l sz ρ xa xb xc hd th hst hs hX hm hF hρ hB hc6 hT hhd hth hthv g hg
  | 41, _, hst, hs, hg => exact c_X4_perform_41 l sz ρ xa xb xc hd th hst hs hX hm hF hρ hB hc6 hT hhd hth hthv g hg
  | 42, _, hst, hs, hg => exact c_X4_perform_42 l sz ρ xa xb xc hd th hst hs hX hm hF hρ hB hc6 hT hhd hth hthv g hg
  | 43, _, hst, hs, hg => exact c_X4_perform_43 l sz ρ xa xb xc hd th hst hs hX hm hF hρ hB hc6 hT hhd hth hthv g hg
  | 44, _, hst, hs, hg => exact c_X4_perform_44 l sz ρ xa xb xc hd th hst hs hX hm hF hρ hB hc6 hT hhd hth hthv g hg
  | 45, _, hst, hs, hg => exact c_X4_perform_45 l sz ρ xa xb xc hd th hst hs hX hm hF hρ hB hc6 hT hhd hth hthv g hg
  | 46, _, hst, hs, hg => exact c_X4_perform_46 l sz ρ xa xb xc hd th hst hs hX hm hF hρ hB hc6 hT hhd hth hthv g hg
  | 47, _, hst, hs, hg => exact c_X4_perform_47 l sz ρ xa xb xc hd th hst hs hX hm hF hρ hB hc6 hT hhd hth hthv g hg
  | 48, _, hst, hs, hg => exact c_X4_perform_48 l sz ρ xa xb xc hd th hst hs hX hm hF hρ hB hc6 hT hhd hth hthv g hg
  | 49, _, hst, hs, hg => exact c_X4_perform_49 l sz ρ xa xb xc hd th hst hs hX hm hF hρ hB hc6 hT hhd hth hthv g hg
  | 50, _, hst, hs, hg => exact c_X4_perform_50 l sz ρ xa xb xc hd th hst hs hX hm hF hρ hB hc6 hT hhd hth hthv g hg
  | 51, _, hst, hs, hg => exact c_X4_perform_51 l sz ρ xa xb xc hd th hst hs hX hm hF hρ hB hc6 hT hhd hth hthv g hg
  | 52, _, hst, hs, hg => exact c_X4_perform_52 l sz ρ xa xb xc hd th hst hs hX hm hF hρ hB hc6 hT hhd hth hthv g hg
  | 53, _, hst, hs, hg => exact c_X4_perform_53 l sz ρ xa xb xc hd th hst hs hX hm hF hρ hB hc6 hT hhd hth hthv g hg
  | 54, _, hst, hs, hg => exact c_X4_perform_54 l sz ρ xa xb xc hd th hst hs hX hm hF hρ hB hc6 hT hhd hth hthv g hg
  | 55, _, hst, hs, hg => exact c_X4_perform_55 l sz ρ xa xb xc hd th hst hs hX hm hF hρ hB hc6 hT hhd hth hthv g hg
  | 56, _, hst, hs, hg => exact c_X4_perform_56 l sz ρ xa xb xc hd th hst hs hX hm hF hρ hB hc6 hT hhd hth hthv g hg
  | 57, _, hst, hs, hg => exact c_X4_perform_57 l sz ρ xa xb xc hd th hst hs hX hm hF hρ hB hc6 hT hhd hth hthv g hg
  | 58, _, hst, hs, hg => exact c_X4_perform_58 l sz ρ xa xb xc hd th hst hs hX hm hF hρ hB hc6 hT hhd hth hthv g hg
  | 59, _, hst, hs, hg => exact c_X4_perform_59 l sz ρ xa xb xc hd th hst hs hX hm hF hρ hB hc6 hT hhd hth hthv g hg
  | 60, _, hst, hs, hg => exact c_X4_perform_60 l sz ρ xa xb xc hd th hst hs hX hm hF hρ hB hc6 hT hhd hth hthv g hg
  | 61, _, hst, hs, hg => exact c_X4_perform_61 l sz ρ xa xb xc hd th hst hs hX hm hF hρ hB hc6 hT hhd hth hthv g hg
  | 62, _, hst, hs, hg => exact c_X4_perform_62 l sz ρ xa xb xc hd th hst hs hX hm hF hρ hB hc6 hT hhd hth hthv g hg
  | 63, _, hst, hs, hg => exact c_X4_perform_63 l sz ρ xa xb xc hd th hst hs hX hm hF hρ hB hc6 hT hhd hth hthv g hg
  | 64, _, hst, hs, hg => exact c_X4_perform_64 l sz ρ xa xb xc hd th hst hs hX hm hF hρ hB hc6 hT hhd hth hthv g hg
  | 65, _, hst, hs, hg => exact c_X4_perform_65 l sz ρ xa xb xc hd th hst hs hX hm hF hρ hB hc6 hT hhd hth hthv g hg
  | 66, _, hst, hs, hg => exact c_X4_perform_66 l sz ρ xa xb xc hd th hst hs hX hm hF hρ hB hc6 hT hhd hth hthv g hg
  | 67, _, hst, hs, hg => exact c_X4_perform_67 l sz ρ xa xb xc hd th hst hs hX hm hF hρ hB hc6 hT hhd hth hthv g hg
  | 68, _, hst, hs, hg => exact c_X4_perform_68 l sz ρ xa xb xc hd th hst hs hX hm hF hρ hB hc6 hT hhd hth hthv g hg
  | 69, _, hst, hs, hg => exact c_X4_perform_69 l sz ρ xa xb xc hd th hst hs hX hm hF hρ hB hc6 hT hhd hth hthv g hg
  | 70, _, hst, hs, hg => exact c_X4_perform_70 l sz ρ xa xb xc hd th hst hs hX hm hF hρ hB hc6 hT hhd hth hthv g hg
  | 71, _, hst, hs, hg => exact c_X4_perform_71 l sz ρ xa xb xc hd th hst hs hX hm hF hρ hB hc6 hT hhd hth hthv g hg
  | 72, _, hst, hs, hg => exact c_X4_perform_72 l sz ρ xa xb xc hd th hst hs hX hm hF hρ hB hc6 hT hhd hth hthv g hg
  | 73, _, hst, hs, hg => exact c_X4_perform_73 l sz ρ xa xb xc hd th hst hs hX hm hF hρ hB hc6 hT hhd hth hthv g hg
  | n + 74, h, _, _, _ => exact absurd h (by omega)

abbrev s1 (κ : KS) : KS := uI κ 5 (sI κ 5 + 1)
theorem doR_0 {κ κ2 : KS} {hd th r : Int32} {k : Nat} {a b c : Int32} (h : (r, κ2) = doR κ hd th k a b c) (h0 : r = 0) : why κ k a b c = 0 ∧ κ2 = act κ hd th k a b c := by
  have h1 : r = why κ k a b c := congrArg Prod.fst h
  have h2 : κ2 = if why κ k a b c = 0 then act κ hd th k a b c else κ := congrArg Prod.snd h
  have h3 : why κ k a b c = 0 := h1.symm.trans h0
  rw [if_pos h3] at h2
  exact ⟨h3, h2⟩
theorem doR_1 {κ κ2 : KS} {hd th r : Int32} {k : Nat} {a b c : Int32} (h : (r, κ2) = doR κ hd th k a b c) (h0 : ¬ r = 0) : ¬ why κ k a b c = 0 ∧ r = why κ k a b c ∧ κ2 = κ := by
  have h1 : r = why κ k a b c := congrArg Prod.fst h
  have h2 : κ2 = if why κ k a b c = 0 then act κ hd th k a b c else κ := congrArg Prod.snd h
  have h3 : ¬ why κ k a b c = 0 := fun e => h0 (h1.trans e)
  rw [if_neg h3] at h2
  exact ⟨h3, h1, h2⟩
/-- the class's state behind a step -/
def dX (κ : KS) (hd th : Int32) (k : Nat) (a b c : Int32) : KS := if why (s1 κ) k a b c = 0 then (if sI (act (s1 κ) hd th k a b c) 3 = 1 then goK (act (s1 κ) hd th k a b c) (nxt (s1 κ) k a b (sI κ 4 + 1)) else act (s1 κ) hd th k a b c) else failX (s1 κ) (why (s1 κ) k a b c)
def thX (κ : KS) (x : Option Nat) (k : Nat) (a b c : Int32) : Option Nat := if why (s1 κ) k a b c = 0 then x else thrX (s1 κ) (why (s1 κ) k a b c) a
theorem PR_cg {ad ad2 : Nat → Nat} {κ κ' : KS} {τ τ' : TAU} (h : PR ad κ τ) (i0 : sI κ' 0 = sI κ 0) (i1 : sI κ' 1 = sI κ 1) (t0 : τ'.1 = τ.1) (t1 : τ'.2.1 = τ.2.1) (hag : ∀ i, lvX κ i → ad2 i = ad i) : PR ad2 κ' τ' := by
  obtain ⟨⟨mn, h1, h2, h3⟩, hn, h4, h5, h6⟩ := h
  refine ⟨⟨mn, h1, i0.trans h2, fun k hk => ?_⟩, hn, h4, i1.trans h5, fun k hk => ?_⟩
  · rw [t0, hag (400 + k) (Or.inr (Or.inr (Or.inl ⟨by omega, by rw [h2, show aN (nI mn) = mn from nI_clamp (by omega)]; omega⟩)))]
    exact h3 k hk
  · rw [t1, hag (600 + k) (Or.inr (Or.inr (Or.inr ⟨by omega, by rw [h5, show aN (nI hn) = hn from nI_clamp (by omega)]; omega⟩)))]
    exact h6 k hk
set_option maxHeartbeats 4000000 in
set_option maxRecDepth 100000 in
theorem c_X4_doStep (l : Launch) {D : va_G} {q : Nat → ClassId} {ad : Nat → Nat} {κ : KS} {τ : TAU} (sz : Nat) (ρ k : Nat) (hk : k < 74) (o xa xb xc hd th : Int32) (ho : o = nI k) (hst : stepAt q ad κ τ ρ o xa xb xc) (hs : okStep k xa xb xc)(hX : WFx κ) (hm : vp_in (sI κ 2) 61) (hF : WFa κ τ (aN (sI κ 2))) (hρ : 400 ≤ ρ) (hB : FB κ) (hc6 : ∃ n, n ≤ 12 ∧ sI κ 6 = nI n) (hT : ¬ sI κ 7 < 0) (hhd : hd = sI κ 9) (hth : τ.2.2.2 = rT th) (hthv : ¬ th = 0 → aN (th - 1) < aN (sI κ 2)) (g : Nat) (hg : why (s1 κ) k xa xb xc = 0 → mkN (s1 κ) k xb ≤ g) (hP : PR ad κ τ) (hwj : ¬ why (s1 κ) k xa xb xc = 0 → ∃ j, j < 31 ∧ why (s1 κ) k xa xb xc = nI j) (hxa : 8 ≤ why (s1 κ) k xa xb xc → vp_in xa 8) (hI0 : sI (act (s1 κ) hd th k xa xb xc) 0 = sI κ 0) (hI1 : sI (act (s1 κ) hd th k xa xb xc) 1 = sI κ 1) : Met l yX4_doStep wsX4_doStep (rmc 5 120 (4 * g) (44 * g)) (va_Pc [.ref (ad 3), .ref (ad ρ)] (rPre D q (wX q ad κ τ) sz)) (va_Qv (fun (u : KS × TAU × (Nat → Nat)) => (u.1 = dX κ hd th k xa xb xc ∧ ∃ v, u.2.1 = (τ.1, τ.2.1, v, thX κ τ.2.2.2 k xa xb xc)) ∧ ∀ i, lvX κ i → u.2.2 i = ad i) (fun (u : KS × TAU × (Nat → Nat)) tt => rPo D (rA (wX q ad κ τ) sz) (wX q u.2.2 u.1 u.2.1) tt) (rA (wX q ad κ τ) sz)) (4 * g) (44 * g) (rA (wX q ad κ τ) sz) := by
  refine r_start (cc := cX4_doStep) (maxL := 3) (ret := none) (by decide) rfl (Nat.le_of_ble_eq_true rfl) ?_
  intro p e s m below meth c ls hC hr hlk hnm hsz hw hl
  have hx := hC.1
  have hb := hC.2.1
  have hl : lv_has ls 3 [(0, .ref (ad 3)), (1, .ref (ad ρ))] := hl
  refine lv_aload_n hx hb dX4_doStep_0 rfl (lv_at hl 1 rfl) ?_
  refine lv_ifnonnull (tgt := 5) hx hb dX4_doStep_1 (by decide) ?_
  refine lv_aload_n hx hb dX4_doStep_5 rfl (lv_at hl 0 rfl) ?_
  refine lv_dup hx hb dX4_doStep_6 rfl ?_
  refine r_get hC hw rk4 in_X4_doStep_4 3 (wXl 3 (by decide)) wXc3 9 (by decide) lk_X4_doStep_46 (v := .int (sI κ 5)) rfl dX4_doStep_7 ?_
  refine lv_iconst (v := 1) hx hb dX4_doStep_10 (by decide) ?_
  refine lv_iadd hx hb dX4_doStep_11 ?_
  refine r_put hC hw rk4 in_X4_doStep_4 3 (wXl 3 (by decide)) wXc3 9 (by decide) lk_X4_doStep_46 rfl rfl rfl (Nat.le_of_ble_eq_true rfl) dX4_doStep_12 (fun H locs hw => ?_)
  replace hw := xP_stepsDone hw
  refine lv_aload_n hx hb dX4_doStep_15 rfl (lv_at hl 0 rfl) ?_
  refine lv_aload_n hx hb dX4_doStep_16 rfl (lv_at hl 0 rfl) ?_
  refine r_get hC hw rk4 in_X4_doStep_4 3 (wXl 3 (by decide)) wXc3 7 (by decide) lk_X4_doStep_75 (v := .int (sI κ 4)) rfl dX4_doStep_17 ?_
  refine lv_iconst (v := 1) hx hb dX4_doStep_20 (by decide) ?_
  refine lv_iadd hx hb dX4_doStep_21 ?_
  refine r_put hC hw rk4 in_X4_doStep_4 3 (wXl 3 (by decide)) wXc3 8 (by decide) lk_X4_doStep_78 rfl rfl rfl (Nat.le_of_ble_eq_true rfl) dX4_doStep_22 (fun H locs hw => ?_)
  replace hw := xP_next hw
  refine lv_aload_n hx hb dX4_doStep_25 rfl (lv_at hl 0 rfl) ?_
  refine lv_aload_n hx hb dX4_doStep_26 rfl (lv_at hl 1 rfl) ?_
  refine r_ki hw (r_runV (rest := []) hC hw 3 (c_X4_perform (ad := ad) (κ := s1 κ) (τ := (τ.1, τ.2.1, (sI κ 4) + 1, τ.2.2.2)) l _ ρ k hk o xa xb xc hd th ho (stepAt_cg (κ := κ) (τ := τ) hρ rfl rfl rfl rfl hX.1 hst) hs hX hm hF hρ hB hc6 hT hhd hth hthv g hg) rk4 (wXl 3 (by decide)) wXc3 1 gX4_doStep_X4_perform rfl rfl rfl (by decide +kernel) ⟨Nat.le_of_ble_eq_true rfl, Nat.le_of_ble_eq_true rfl⟩ rfl hl.1 rfl (Nat.le_of_ble_eq_true rfl) dX4_doStep_27 ⟨show 0 + (4 * g) ≤ 4 * g by omega, show 0 + (44 * g) ≤ 44 * g by omega⟩) (fun r_2 u_3 H locs h_1 hw => ?_)
  obtain ⟨⟨hdo, v, hτ, hv⟩, hag⟩ := h_1
  obtain ⟨κ2, τ2, ad2⟩ := u_3
  dsimp only at hdo hτ hv hag hw
  subst hτ
  replace hag : ∀ i, lvX κ i → ad2 i = ad i := hag
  have g3 : ad 3 = ad2 3 := (hag 3 (Or.inl (by decide))).symm
  have gρ : ad ρ = ad2 ρ := (hag ρ hst.1).symm
  rw [g3, gρ] at hl
  refine lv_istore_n (lv' := [(2, .int r_2), (0, .ref (ad2 3)), (1, .ref (ad2 ρ))]) hx hb dX4_doStep_30 rfl hl (by decide) rfl (fun ls hl => ?_)
  refine lv_iload_n hx hb dX4_doStep_31 rfl (lv_at hl 0 rfl) ?_
  refine lv_if_eq (tgt := 44) hx hb dX4_doStep_32 (by decide) (fun c_4 => ?_) (fun c_4 => ?_)
  · refine lv_aload_n hx hb dX4_doStep_44 rfl (lv_at hl 1 rfl) ?_
    refine r_get hC hw rk4 in_X4_doStep_4 3 (wXl 3 (by decide)) wXc3 6 (by decide) lk_X4_doStep_68 (v := .int (sI κ2 3)) rfl dX4_doStep_45 ?_
    refine lv_iconst (v := 1) hx hb dX4_doStep_48 (by decide) ?_
    refine lv_icmp_ne (tgt := 60) hx hb dX4_doStep_49 (by decide) (fun c_5 => ?_) (fun c_5 => ?_)
    · obtain ⟨hw1, hκ2⟩ := doR_0 hdo c_4
      exact r_vret hC hr hlk hw (κ2, (τ.1, τ.2.1, v, τ.2.2.2), ad2) rfl ⟨⟨by rw [hκ2] at c_5 ⊢; unfold dX; rw [if_pos hw1, if_neg c_5], v, by unfold thX; rw [if_pos hw1]⟩, hag⟩ (show _ ≤ 4 * g by omega) (show _ ≤ 44 * g by omega) dX4_doStep_60
    · refine lv_aload_n hx hb dX4_doStep_52 rfl (lv_at hl 1 rfl) ?_
      refine lv_aload_n hx hb dX4_doStep_53 rfl (lv_at hl 1 rfl) ?_
      refine r_get hC hw rk4 in_X4_doStep_4 3 (wXl 3 (by decide)) wXc3 8 (by decide) lk_X4_doStep_78 (v := .int v) rfl dX4_doStep_54 ?_
      obtain ⟨hw1, hκ2⟩ := doR_0 hdo c_4
      refine r_kv hw (r_runV (rest := []) hC hw 3 (c_X4_goTo (ad := ad2) l _ v (PR_cg hP (by rw [hκ2]; exact hI0) (by rw [hκ2]; exact hI1) rfl rfl hag)) rk4 (wXl 3 (by decide)) wXc3 1 gX4_doStep_X4_goTo rfl rfl rfl (by decide +kernel) ⟨Nat.le_of_ble_eq_true rfl, Nat.le_of_ble_eq_true rfl⟩ rfl hl.1 rfl (Nat.le_of_ble_eq_true rfl) dX4_doStep_57 ⟨show _ ≤ 4 * g by omega, show _ ≤ 44 * g by omega⟩) (fun u_8 H locs h_6 hw => ?_)
      subst h_6
      dsimp only at hw
      exact r_vret hC hr hlk hw (goK κ2 v, (τ.1, τ.2.1, v, τ.2.2.2), ad2) rfl ⟨⟨by rw [hκ2] at c_5 ⊢; unfold dX; rw [if_pos hw1, if_pos c_5, hv c_4], v, by unfold thX; rw [if_pos hw1]⟩, hag⟩ (show _ ≤ 4 * g by omega) (show _ ≤ 44 * g by omega) dX4_doStep_60
  · refine lv_aload_n hx hb dX4_doStep_35 rfl (lv_at hl 1 rfl) ?_
    refine lv_aload_n hx hb dX4_doStep_36 rfl (lv_at hl 2 rfl) ?_
    refine lv_iload_n hx hb dX4_doStep_37 rfl (lv_at hl 0 rfl) ?_
    obtain ⟨hw1, hrw, rfl⟩ := doR_1 hdo c_4
    obtain ⟨jj, hj, hjw⟩ := hwj hw1
    refine r_kv hw (r_runV (rest := []) hC hw 3 (c_X4_fail (ad := ad2) (κ := s1 κ) (τ := (τ.1, τ.2.1, v, τ.2.2.2)) l _ ρ o xa xb xc r_2 jj (stepAt_cg (κ := κ) (τ := τ) hρ rfl rfl rfl rfl hX.1 hst) hρ hX (hrw.trans hjw) hj (by rw [hrw]; exact hxa) (PR_cg hP rfl rfl rfl rfl hag) hc6) rk4 (wXl 3 (by decide)) wXc3 2 gX4_doStep_X4_fail rfl rfl rfl (by decide +kernel) ⟨Nat.le_of_ble_eq_true rfl, Nat.le_of_ble_eq_true rfl⟩ rfl hl.1 rfl (Nat.le_of_ble_eq_true rfl) dX4_doStep_38 ⟨show _ ≤ 4 * g by omega, show _ ≤ 44 * g by omega⟩) (fun u_11 H locs h_9 hw => ?_)
    subst h_9
    dsimp only at hw
    refine lv_goto (tgt := 60) hx hb dX4_doStep_41 (by decide) ?_
    exact r_vret hC hr hlk hw (failX (s1 κ) r_2, (τ.1, τ.2.1, v, thrX (s1 κ) r_2 xa), ad2) rfl ⟨⟨by unfold dX; rw [if_neg hw1, ← hrw], v, by unfold thX; rw [if_neg hw1, ← hrw]⟩, hag⟩ (show _ ≤ 4 * g by omega) (show _ ≤ 44 * g by omega) dX4_doStep_60

