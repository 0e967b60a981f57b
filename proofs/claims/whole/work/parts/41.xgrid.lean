theorem mkR_s (κ : KS) (g pl : Int32) (i : Nat) : mkR κ g pl (i + 1) = uA (mk (mkR κ g pl i) 4 pl) 6 (aN (12 * g + nI i)) (sI (mkR κ g pl i) 2 + 1) := rfl
theorem uA_uI (κ : KS) (k i : Nat) (v : Int32) (j : Nat) (w : Int32) : uA (uI κ j w) k i v = uI (uA κ k i v) j w := rfl
theorem nwK {K : KS} {N : Nat} (h : sI K 2 = nI N) (v kd pl : Int32) : nw (uI K 2 v) N kd pl = uI (mk K kd pl) 2 v := by
  unfold nw
  rw [uI_uI, ← h, uI_same]
  congr 1
theorem lnM_10 {κ : KS} {k rn : Nat} (h4 : sA κ 4 k = 10) (h5 : sA κ 5 k = nI rn) (h6 : rn ≤ 6) : lnM κ k = rn := by
  unfold lnM
  rw [h4, h5, if_pos (by decide)]
  exact nI_clamp (by omega)
theorem exX_asV {q : Nat → ClassId} {ad : Nat → Nat} {κ κ' : KS} {τ : TAU} {M : Nat} (hF : ∀ i, i < 15 → exF q ad κ' τ i = exF q ad κ τ i) (hS : ∀ i, ¬ i < 400 → exG q ad κ' i = exG q ad κ i) {R : Nat} {e : va_E} (hR : 100 ≤ R ∧ R < 400) (hT : ∀ i, 100 ≤ i → i < 400 → exT q ad κ' ((i - 100) / 4) ((i - 100) % 4) = va_up (exX q ad κ τ) R e i) : ∀ i, lvV κ M i → exX q ad κ' τ i = va_up (exX q ad κ τ) R e i := by
  intro i hi
  by_cases hj : i < 15
  · rw [va_up_ne _ _ (by omega), exX_lt hj, exX_lt hj]; exact hF i hj
  · by_cases h4 : i < 400
    · have h1 : 100 ≤ i := by rcases hi with h | h | h | h <;> omega
      rw [← hT i h1 h4, exX_ge hj]; unfold exG; rw [if_pos h4]
    · rw [va_up_ne _ _ (by omega), exX_ge hj, exX_ge hj]; exact hS i h4
theorem xV_mem {D : va_G} {q : Nat → ClassId} {A : Nat → Prop} {H0 : Heap} {s : State} {ad : Nat → Nat} {κ : KS} {τ : TAU} {H : Heap} {locs : List Loc} {k n M : Nat} (hk : k < 60) (hn : lnM κ k = n) {v : Int32} {x : Nat} (hx : x < 12) {y : Option Nat} (hy : (rT v).map ad = y) (h : rX D q A H0 s (wU (wV q ad κ τ M) (103 + 4 * k) (.inl (q 6, n, .inr (.inr (.inr (.inr (va_up (fun j => (rT (tr 0 (sA κ 6) k j)).map ad) x y))))))) H locs) : rX D q A H0 s (wV q ad (uA κ 6 (12 * k + x) v) τ M) H locs := by
  subst hn
  refine h.as (fun i hi => hi) (fun i hi => rfl) (exX_asV (q := q) (ad := ad) (κ := κ) (κ' := (uA κ 6 (12 * k + x) v)) (τ := τ) (R := 103 + 4 * k) (e := .inl (q 6, lnM κ k, .inr (.inr (.inr (.inr (va_up (fun j => (rT (tr 0 (sA κ 6) k j)).map ad) x y)))))) (fin15 ⟨rfl, rfl, rfl, rfl, rfl, rfl, rfl, rfl, rfl, rfl, rfl, rfl, rfl, rfl, rfl⟩) (fun i h4 => by unfold exG; rw [if_neg h4, if_neg h4]; rfl) (by omega) (fun i h1 h2 => ?_))
  obtain ⟨k2, j, hj, rfl⟩ : ∃ k2 j, j < 4 ∧ i = 100 + 4 * k2 + j := ⟨(i - 100) / 4, (i - 100) % 4, by omega, by omega⟩
  rw [show (100 + 4 * k2 + j - 100) / 4 = k2 by omega, show (100 + 4 * k2 + j - 100) % 4 = j by omega]
  by_cases hkk : k2 = k
  · subst hkk
    match j, hj with
    | 0, _ => rw [va_up_ne _ _ (by omega), exT_of (by omega) (by omega), show (100 + 4 * k2 + 0 - 100) / 4 = k2 by omega, show (100 + 4 * k2 + 0 - 100) % 4 = 0 by omega]; exact exT0_cg (uA_ne _ _ _ (by decide)) (uA_ne _ _ _ (by decide)) (uA_ne _ _ _ (by decide)) (uA_ne _ _ _ (by decide)) rfl
    | 1, _ => rw [va_up_ne _ _ (by omega), exT_of (by omega) (by omega), show (100 + 4 * k2 + 1 - 100) / 4 = k2 by omega, show (100 + 4 * k2 + 1 - 100) % 4 = 1 by omega]; exact exT1_cg (uA_ne _ _ _ (by decide)) (uA_ne _ _ _ (by decide)) rfl
    | 2, _ => rw [va_up_ne _ _ (by omega), exT_of (by omega) (by omega), show (100 + 4 * k2 + 2 - 100) / 4 = k2 by omega, show (100 + 4 * k2 + 2 - 100) % 4 = 2 by omega]; exact exT2_cg (uA_ne _ _ _ (by decide)) (uA_ne _ _ _ (by decide)) rfl
    | 3, _ => rw [show 100 + 4 * k2 + 3 = 103 + 4 * k2 by omega, va_up_self]; show (Sum.inl (q 6, lnM κ k2, .inr (.inr (.inr (.inr (fun j => (rT (tr 0 (sA (uA κ 6 (12 * k2 + x) v) 6) k2 j)).map ad))))) : va_E) = _; rw [uA_same, tr_up _ _ _ _ _ hx, if_pos rfl, rT_up, hy]
    | j + 4, hj => exact absurd hj (by omega)
  · rw [va_up_ne _ _ (by omega), exT_of (by omega) (by omega), show (100 + 4 * k2 + j - 100) / 4 = k2 by omega, show (100 + 4 * k2 + j - 100) % 4 = j by omega]
    match j, hj with
    | 0, _ => exact exT0_cg (uA_ne _ _ _ (by decide)) (uA_ne _ _ _ (by decide)) (uA_ne _ _ _ (by decide)) (uA_ne _ _ _ (by decide)) rfl
    | 1, _ => exact exT1_cg (uA_ne _ _ _ (by decide)) (uA_ne _ _ _ (by decide)) rfl
    | 2, _ => exact exT2_cg (uA_ne _ _ _ (by decide)) (uA_ne _ _ _ (by decide)) rfl
    | 3, _ => show (Sum.inl (q 6, lnM κ k2, .inr (.inr (.inr (.inr (fun j => (rT (tr 0 (sA (uA κ 6 (12 * k + x) v) 6) k2 j)).map ad))))) : va_E) = Sum.inl (q 6, lnM κ k2, .inr (.inr (.inr (.inr (fun j => (rT (tr 0 (sA κ 6) k2 j)).map ad))))); rw [uA_same, tr_up _ _ _ _ _ hx, if_neg hkk]
    | j + 4, hj => exact absurd hj (by omega)
theorem WFa_mk {κ : KS} {τ : TAU} {M : Nat} (h : WFa κ τ M) (hM : sI κ 2 = nI M) (h60 : M < 60) (kd pl : Int32) : WFa (mk κ kd pl) τ (M + 1) := by
  obtain ⟨h3, h8, h6, ht⟩ := h
  refine ⟨fun j => ?_, fun k hk => ?_, fun k j hk hj => ?_, fun r hr => ?_⟩
  · rw [mk_A κ kd pl (by decide)]
    exact fun hn => Nat.lt_succ_of_lt (h3 j hn)
  · rw [mk_A8 hM h60]
    by_cases e : k = M
    · rw [e, va_up_self]; exact fun hn => absurd rfl hn
    · rw [va_up_ne _ _ e]; exact fun hn => Nat.lt_succ_of_lt (h8 k (by omega) hn)
  · rw [mk_A6 hM h60]
    by_cases e : k = M
    · rw [if_pos (by omega)]; exact fun hn => absurd rfl hn
    · rw [if_neg (by omega)]; exact fun hn => Nat.lt_succ_of_lt (h6 k j (by omega) hj hn)
  · obtain ⟨k, hk, e⟩ := ht r hr
    exact ⟨k, by omega, e⟩
theorem WFa_A6 {κ : KS} {τ : TAU} {M : Nat} (h : WFa κ τ M) (i : Nat) {v : Int32} (hv : ¬ v = 0 → aN (v - 1) < M) : WFa (uA κ 6 i v) τ M := by
  obtain ⟨h3, h8, h6, ht⟩ := h
  refine ⟨fun j => ?_, fun k hk => ?_, fun k j hk hj => ?_, ht⟩
  · rw [uA_ne _ _ _ (by decide)]; exact h3 j
  · rw [uA_ne _ _ _ (by decide)]; exact h8 k hk
  · rw [uA_same]
    by_cases e : 12 * k + j = i
    · rw [← e, va_up_self]; exact hv
    · rw [va_up_ne _ _ e]; exact h6 k j hk hj
theorem lvXV {κ K : KS} {M N : Nat} {v : Int32} (hM : aN (sI κ 2) = M) (hN : M ≤ N) (i0 : sI K 0 = sI κ 0) (i1 : sI K 1 = sI κ 1) {j : Nat} (h : lvX κ j) : lvV (uI K 2 v) N j := by
  unfold lvX at h
  have e0 : sI (uI K 2 v) 0 = sI κ 0 := i0
  have e1 : sI (uI K 2 v) 1 = sI κ 1 := i1
  unfold lvV
  rw [e0, e1]
  omega
theorem grid_nums {x y : Int32} (hm : vp_in x 61) (h0 : 0 ≤ y) (h6 : y ≤ 6) (hc : (x + 1) + y ≤ 60) : ∃ M rn, x = nI M ∧ y = nI rn ∧ rn ≤ 6 ∧ M + 1 + rn ≤ 60 := by
  obtain ⟨M, hM, rfl⟩ := vp_in_of hm (by decide)
  obtain ⟨rn, hr, rfl⟩ := nI_of2 (M := 6) (n := 6) (by decide) (Int32.not_lt.mpr h0) h6
  refine ⟨M, rn, rfl, rfl, hr, ?_⟩
  rw [nI_1, nI_add, show (60 : Int32) = nI 60 from rfl] at hc
  exact (nI_leI (by omega) (by omega)).mp hc
theorem in136 {x : Int32} (h0 : 0 ≤ x) (h1 : x ≤ 6) : vp_in x 13 := by
  obtain ⟨j, hj, e⟩ := nI_of2 (M := 6) (n := 6) (by decide) (Int32.not_lt.mpr h0) h1
  rw [e]; exact vp_in_nI (by omega) (by decide)
set_option maxHeartbeats 4000000 in
set_option maxRecDepth 100000 in
theorem lp_X7_makeGrid {p : Program} {l : Launch} {e : Env} {R : Room} {s : State} {m : MethodId} {args : Array Value} {below : List Frame} {meth : Method} {c : Code} {Q : State → Prop} {D : va_G} {q : Nat → ClassId} {A : Nat → Prop} {H0 : Heap} {ad : Nat → Nat} {κ : KS} {τ : TAU} (hC : CallFix p m c cX7_makeGrid 6 s args wsX7_makeGrid RX7) (g : Nat) (hR : R = (rmc 2 34 (4 * g) (44 * g))) (M rn : Nat) (pl rows v gI : Int32) (hrows : rows = nI rn) (hr6 : rn ≤ 6) (h60 : M + 1 + rn ≤ 60) (hMa : aN (sI κ 2) = M) (hv : v = nI (M + 1 + rn)) (hgI : gI = nI M) (hpl : vp_in pl 13) (hg : 1 + rn ≤ g) (K0 : KS) (x0 x1 x4 : Nat) (kk : ∀ (ad' : Nat → Nat) (K : KS) (H : Heap) (locs : List Loc) (ls : Array Slot) (cs ss : Nat), cs = 4 * (1 + rn) → ss = 44 * (1 + rn) → K = mkR K0 gI pl rn → aN (sI K 2) = M + 1 + rn → (sA K 0 = sA κ 0 ∧ sA K 1 = sA κ 1 ∧ sI K 0 = sI κ 0 ∧ sI K 1 = sI κ 1) → (∀ j, lvX κ j → ad' j = ad j) → x4 = ad' (100 + 4 * M) → rX D q A H0 s (wX q ad' K τ) H locs → lv_has ls 6 [(5, .int (nI rn)), (4, .ref x4), (0, .ref x0), (1, .ref x1), (2, .int rows), (3, .int pl)] → W p l e (rmc 2 34 (4 * g) (44 * g)) s m args below meth c H locs cs ss Q (F0 m 117 ls [])) : ∀ (n i : Nat) (I : Int32) (ad' : Nat → Nat) (K : KS) (H : Heap) (locs : List Loc) (ls : Array Slot) (cs ss : Nat), I = nI i → i + n = rn → cs = 4 * (1 + i) → ss = 44 * (1 + i) → K = mkR K0 gI pl i → sI K 2 = nI (M + 1 + i) → WFa K τ (M + 1 + i) → sA K 4 M = 10 → sA K 5 M = nI rn → (sA K 0 = sA κ 0 ∧ sA K 1 = sA κ 1 ∧ sI K 0 = sI κ 0 ∧ sI K 1 = sI κ 1) → (∀ j, lvX κ j → ad' j = ad j) → x4 = ad' (100 + 4 * M) → rX D q A H0 s (wV q ad' (uI K 2 v) τ (M + 1 + i)) H locs → lv_has ls 6 [(5, .int I), (4, .ref x4), (0, .ref x0), (1, .ref x1), (2, .int rows), (3, .int pl)] → W p l e (rmc 2 34 (4 * g) (44 * g)) s m args below meth c H locs cs ss Q (F0 m 89 ls []) := by
  subst hR
  have hx := hC.1
  have hb := hC.2.1
  intro n
  induction n with
  | zero =>
    intro i I ad' K H locs ls cs ss hI hi hcs hss hKe hs2 hF h4 h5 hfa hag hx4 hw hl
    refine lv_iload hx hb dX7_makeGrid_89 (lv_at hl 0 rfl) ?_
    refine lv_iload_n hx hb dX7_makeGrid_91 rfl (lv_at hl 4 rfl) ?_
    refine lv_icmp_ge (tgt := 117) hx hb dX7_makeGrid_92 (by decide) (fun _ => ?_) (fun c_ => absurd (by rw [hrows, hI]; exact nI_le (by omega) (by omega)) c_)
    obtain rfl : i = rn := by omega
    subst hI
    rw [show v = sI K 2 from hv.trans hs2.symm, uI_same, wVX (by rw [hs2]; exact nI_clamp (by omega))] at hw
    exact kk ad' K H locs ls cs ss hcs hss hKe (by rw [hs2]; exact nI_clamp (by omega)) hfa hag hx4 hw hl
  | succ n ih =>
    intro i I ad' K H locs ls cs ss hI hi hcs hss hKe hs2 hF h4 h5 hfa hag hx4 hw hl
    refine lv_iload hx hb dX7_makeGrid_89 (lv_at hl 0 rfl) ?_
    refine lv_iload_n hx hb dX7_makeGrid_91 rfl (lv_at hl 4 rfl) ?_
    refine lv_icmp_ge (tgt := 117) hx hb dX7_makeGrid_92 (by decide) (fun c_ => absurd c_ (by rw [hrows, hI]; exact nI_ge (by omega) (by omega))) (fun _ => ?_)
    refine lv_aload hx hb dX7_makeGrid_95 (lv_at hl 1 rfl) ?_
    refine lv_iload hx hb dX7_makeGrid_97 (lv_at hl 0 rfl) ?_
    have n_0 : Nl (wV q ad' (uI K 2 v) τ (M + 1 + i)) (100 + 4 * (M + 1 + i)) := by show ¬ lvV _ _ _; unfold lvV; omega
    have n_1 : Nl (wV q ad' (uI K 2 v) τ (M + 1 + i)) (100 + 4 * (M + 1 + i) + 1) := by show ¬ lvV _ _ _; unfold lvV; omega
    have n_2 : Nl (wV q ad' (uI K 2 v) τ (M + 1 + i)) (100 + 4 * (M + 1 + i) + 2) := by show ¬ lvV _ _ _; unfold lvV; omega
    have n_3 : Nl (wV q ad' (uI K 2 v) τ (M + 1 + i)) (100 + 4 * (M + 1 + i) + 3) := by show ¬ lvV _ _ _; unfold lvV; omega
    have kp : Kp (wV q ad' (uI K 2 v) τ (M + 1 + i)) (wV q ad' (uI K 2 v) τ (M + 1 + i)) (fun _ => False) (fun r => r = 100 + 4 * (M + 1 + i)) := Kp.rf
    refine a_new hC hw rk6 in_X7_makeGrid_6 lk_X7_makeGrid_72 lki_X7_makeGrid_72 lkz_X7_makeGrid_72 (100 + 4 * (M + 1 + i)) n_0 (fs := [.int 0, .int 0, .null, .null, .null, .int 0, .long 0, .null]) (by decide) (show cs + 1 ≤ 4 * g by omega) (show ss + 8 ≤ 44 * g by omega) dX7_makeGrid_99 (fun a0 W H hup hw => ?_)
    have k_0 := At.n hup
    replace n_1 := n_1.n hup (by omega)
    replace n_2 := n_2.n hup (by omega)
    replace n_3 := n_3.n hup (by omega)
    replace kp := kp.n hup rfl n_0
    clear hup
    obtain ⟨kl_0, rfl, kc_0⟩ := k_0
    refine lv_dup hx hb dX7_makeGrid_102 rfl ?_
    refine lv_iconst (v := 4) hx hb dX7_makeGrid_103 (by decide) ?_
    refine lv_iload_n hx hb dX7_makeGrid_104 rfl (lv_at hl 5 rfl) ?_
    refine r_kv hw (r_runI (rest := [.ref (W.1 (100 + 4 * (M + 1 + i))), .int I, .ref x4]) hC hw (c_X6_init l W _ (100 + 4 * (M + 1 + i)) 4 pl hpl kl_0 kc_0 n_1 n_2 n_3) 2 gX7_makeGrid_X6_init rfl rfl rfl lkz_X7_makeGrid_77 lk_X7_makeGrid_77 lki_X7_makeGrid_77 rfl (by decide +kernel) ⟨Nat.le_of_ble_eq_true rfl, Nat.le_of_ble_eq_true rfl⟩ rfl hl.1 rfl (Nat.le_of_ble_eq_true rfl) dX7_makeGrid_105 ⟨show cs + 1 + 3 ≤ 4 * g by omega, show ss + 8 + 36 ≤ 44 * g by omega⟩) (fun W2 H locs hth hw => ?_)
    obtain ⟨ad2, hw, hag2, e0⟩ := xNg (by omega) (hF.uI 2 v) kp hth hw
    rw [nwK hs2] at hw
    have e4 : x4 = ad2 (100 + 4 * M) := hx4.trans (hag2 _ (Or.inr (Or.inl ⟨by omega, by omega⟩))).symm
    have y4 : sA (mk K 4 pl) 4 M = 10 := by rw [mk_A4 hs2 (by omega), va_up_ne _ _ (by omega)]; exact h4
    have y5 : sA (mk K 4 pl) 5 M = nI rn := by rw [mk_A5 hs2 (by omega), va_up_ne _ _ (by omega)]; exact h5
    have yI : sI (mk K 4 pl) 2 = nI (M + 1 + (i + 1)) := by rw [mk_made, hs2, nI_1]; rfl
    have yF := WFa_mk hF hs2 (by omega) 4 pl
    have y0 : sA (mk K 4 pl) 0 = sA κ 0 := (mk_A K 4 pl (by decide)).trans hfa.1
    have y1 : sA (mk K 4 pl) 1 = sA κ 1 := (mk_A K 4 pl (by decide)).trans hfa.2.1
    have z0 : sI (mk K 4 pl) 0 = sI κ 0 := ((congrFun (mk_I K 4 pl) 0).trans (va_up_ne _ _ (by decide))).trans hfa.2.2.1
    have z1 : sI (mk K 4 pl) 1 = sI κ 1 := ((congrFun (mk_I K 4 pl) 1).trans (va_up_ne _ _ (by decide))).trans hfa.2.2.2
    have hE := hKe; rw [show mkR K0 gI pl i = K from hKe.symm] at hE
    have hN := mkR_s K0 gI pl i; rw [← hKe] at hN
    obtain ⟨K2, hK2⟩ : ∃ X, X = mk K 4 pl := ⟨_, rfl⟩
    rw [← hK2] at hw y4 y5 yI yF y0 y1 z0 z1 hN
    refine r_tops (y := [.ref (ad2 (100 + 4 * (M + 1 + i))), .int I, .ref (ad2 (100 + 4 * M))]) (by rw [e0, e4]) ?_
    have hln : lnM (uI K2 2 v) M = rn := lnM_10 (κ := uI K2 2 v) y4 y5 hr6
    refine r_kv hw (r_runV (rest := []) hC hw (100 + 4 * M) (c_X6_setMember l _ _ (100 + 4 * M) (100 + 4 * (M + 1 + i)) (103 + 4 * M) (n := rn) (x3 := .null) I (by rw [hI]; exact vp_in_nI (by omega) (by omega)) (by omega) (Or.inr (Or.inl ⟨by omega, by omega⟩)) (exT0 (by omega)) (Or.inr (Or.inl ⟨by omega, by omega⟩)) (exT0 (by omega)) (Or.inr (Or.inl ⟨by omega, by omega⟩)) (by rw [← hln]; exact exT3 (by omega))) rk6 (Or.inr (Or.inl ⟨by omega, by omega⟩)) (exT0 (by omega)) 2 gX7_makeGrid_X6_setMember rfl rfl rfl (by decide +kernel) ⟨Nat.le_of_ble_eq_true rfl, Nat.le_of_ble_eq_true rfl⟩ rfl hl.1 rfl (Nat.le_of_ble_eq_true rfl) dX7_makeGrid_108 ⟨show cs + 1 + 3 + 0 ≤ 4 * g by omega, show ss + 8 + 36 + 0 ≤ 44 * g by omega⟩) (fun u_1 H locs h_1 hw => ?_)
    have hxa : aN I = i := by rw [hI]; exact nI_clamp (by omega)
    rw [hxa] at hw
    replace hw := xV_mem (by omega) hln (by omega) (rT_M hs2 (by omega) ad2) hw
    rw [uA_uI] at hw
    refine lv_iinc (v := I + 1) (lv' := [(5, .int (I + 1)), (4, .ref x4), (0, .ref x0), (1, .ref x1), (2, .int rows), (3, .int pl)]) hx hb dX7_makeGrid_111 hl (k := 0) rfl (by first | rfl | decide) (by decide) rfl (fun ls hl => ?_)
    refine lv_goto (tgt := 89) hx hb dX7_makeGrid_114 (by decide) ?_
    have hix : aN (12 * gI + nI i) = 12 * M + i := by rw [hgI]; exact zl_i (by omega) (by omega)
    rw [hix] at hN
    refine ih (i + 1) (I + 1) ad2 (uA K2 6 (12 * M + i) (sI K 2 + 1)) _ _ _ (cs + 1 + 3 + 0) (ss + 8 + 36 + 0) (by rw [hI]; exact nI_1 i) (by omega) (by omega) (by omega) hN.symm (by rw [uA_I]; exact yI) (WFa_A6 yF _ (fun _ => by rw [ix1, hs2, show aN (nI (M + 1 + i)) = M + 1 + i from nI_clamp (by omega)]; omega)) (by rw [uA_ne _ _ _ (by decide)]; exact y4) (by rw [uA_ne _ _ _ (by decide)]; exact y5) ⟨by rw [uA_ne _ _ _ (by decide)]; exact y0, by rw [uA_ne _ _ _ (by decide)]; exact y1, by rw [uA_I]; exact z0, by rw [uA_I]; exact z1⟩ (fun j hj => (hag2 j (lvXV hMa (by omega) hfa.2.2.1 hfa.2.2.2 hj)).trans (hag j hj)) e4 hw (lv_sub hl [0, 1, 2, 3, 4, 5] rfl)

set_option maxHeartbeats 4000000 in
set_option maxRecDepth 100000 in
theorem c_X7_makeGrid (l : Launch) {D : va_G} {q : Nat → ClassId} {ad : Nat → Nat} {κ : KS} {τ : TAU} (sz : Nat) (ρ : Nat) (xa xb xc hd th : Int32) (hst : stepAt q ad κ τ ρ 32 xa xb xc) (hs : okStep 32 xa xb xc)(hX : WFx κ) (hm : vp_in (sI κ 2) 61) (hF : WFa κ τ (aN (sI κ 2))) (hρ : 400 ≤ ρ) (g : Nat) (hg : why κ 32 xa xb xc = 0 → 1 + aN (sA κ 2 (aN xb)) ≤ g) : Met l yX7_makeGrid wsX7_makeGrid (rmc 2 34 (4 * g) (44 * g)) (va_Pc [.ref (ad 5), .ref (ad ρ)] (rPre D q (wX q ad κ τ) sz)) (va_Qi (fun (r : Int32) (u : KS × (Nat → Nat)) => (r, u.1) = doR κ hd th 32 xa xb xc ∧ ∀ i, lvX κ i → u.2 i = ad i) (fun (u : KS × (Nat → Nat)) tt => rPo D (rA (wX q ad κ τ) sz) (wX q u.2 u.1 τ) tt) (rA (wX q ad κ τ) sz)) (4 * g) (44 * g) (rA (wX q ad κ τ) sz) := by
  have hi0 : vp_in xa 8 := hs.1
  have hi1 : vp_in xb 8 := hs.2.1
  have hi2 : vp_in xc 8 := hs.2.2
  refine r_start (cc := cX7_makeGrid) (maxL := 6) (ret := (some .int)) (by decide) rfl (Nat.le_of_ble_eq_true rfl) ?_
  intro p e s m below meth c ls hC hr hlk hnm hsz hw hl
  have hx := hC.1
  have hb := hC.2.1
  have hl : lv_has ls 6 [(0, .ref (ad 5)), (1, .ref (ad ρ))] := hl
  refine lv_aload_n hx hb dX7_makeGrid_0 rfl (lv_at hl 0 rfl) ?_
  refine r_get hC hw rk7 in_X7_makeGrid_7 5 (wXl 5 (by decide)) wXc5 0 (by decide) lk_X7_makeGrid_9 (v := .ref (ad 2)) rfl dX7_makeGrid_1 ?_
  refine lv_aload_n hx hb dX7_makeGrid_4 rfl (lv_at hl 1 rfl) ?_
  refine r_get hC hw rk5 in_X7_makeGrid_5 ρ hst.1 hst.2 2 (by decide) lk_X7_makeGrid_74 (v := .int xb) rfl dX7_makeGrid_5 ?_
  refine r_ki hw (r_runV (rest := []) hC hw 2 (c_X3_getWord l _ _ 2 8 xb (wXl 2 (by decide)) wXc2 (wXl 8 (by decide)) wXc8) rk3 (wXl 2 (by decide)) wXc2 1 gX7_makeGrid_X3_getWord rfl rfl rfl (by decide +kernel) ⟨Nat.le_of_ble_eq_true rfl, Nat.le_of_ble_eq_true rfl⟩ rfl hl.1 rfl (Nat.le_of_ble_eq_true rfl) dX7_makeGrid_8 ⟨Nat.le_of_ble_eq_true rfl, Nat.le_of_ble_eq_true rfl⟩) (fun r_2 u_3 H locs h_1 hw => ?_)
  subst h_1
  refine r_topv (y := .int (sA κ 2 (aN xb))) (congrArg _ (gN_in (by assumption) (by decide))) ?_
  refine lv_istore_n (lv' := [(2, .int (sA κ 2 (aN xb))), (0, .ref (ad 5)), (1, .ref (ad ρ))]) hx hb dX7_makeGrid_11 rfl hl (by decide) rfl (fun ls hl => ?_)
  refine lv_aload_n hx hb dX7_makeGrid_12 rfl (lv_at hl 1 rfl) ?_
  refine r_get hC hw rk7 in_X7_makeGrid_7 5 (wXl 5 (by decide)) wXc5 0 (by decide) lk_X7_makeGrid_9 (v := .ref (ad 2)) rfl dX7_makeGrid_13 ?_
  refine lv_aload_n hx hb dX7_makeGrid_16 rfl (lv_at hl 2 rfl) ?_
  refine r_get hC hw rk5 in_X7_makeGrid_5 ρ hst.1 hst.2 3 (by decide) lk_X7_makeGrid_57 (v := .int xc) rfl dX7_makeGrid_17 ?_
  refine r_ki hw (r_runV (rest := []) hC hw 2 (c_X3_getWord l _ _ 2 8 xc (wXl 2 (by decide)) wXc2 (wXl 8 (by decide)) wXc8) rk3 (wXl 2 (by decide)) wXc2 1 gX7_makeGrid_X3_getWord rfl rfl rfl (by decide +kernel) ⟨Nat.le_of_ble_eq_true rfl, Nat.le_of_ble_eq_true rfl⟩ rfl hl.1 rfl (Nat.le_of_ble_eq_true rfl) dX7_makeGrid_20 ⟨Nat.le_of_ble_eq_true rfl, Nat.le_of_ble_eq_true rfl⟩) (fun r_5 u_6 H locs h_4 hw => ?_)
  subst h_4
  refine r_topv (y := .int (sA κ 2 (aN xc))) (congrArg _ (gN_in (by assumption) (by decide))) ?_
  refine lv_istore_n (lv' := [(3, .int (sA κ 2 (aN xc))), (2, .int (sA κ 2 (aN xb))), (0, .ref (ad 5)), (1, .ref (ad ρ))]) hx hb dX7_makeGrid_23 rfl hl (by decide) rfl (fun ls hl => ?_)
  refine lv_iload_n hx hb dX7_makeGrid_24 rfl (lv_at hl 1 rfl) ?_
  refine lv_bipush (v := 6) hx hb dX7_makeGrid_25 (by decide) ?_
  refine lv_icmp_gt (tgt := 36) hx hb dX7_makeGrid_27 (by decide) (fun c_7 => ?_) (fun c_7 => ?_)
  · refine lv_bipush (v := 7) hx hb dX7_makeGrid_36 (by decide) ?_
    exact r_iret hC hr hlk hw (κ, ad) rfl ⟨(doRf (κ := κ) (hd := hd) (th := th) (k := 32) (a := xa) (b := xb) (c := xc) (if_neg (Int32.not_le.mpr c_7)) (by decide)).symm, fun _ _ => rfl⟩ (Nat.zero_le _) (Nat.zero_le _) dX7_makeGrid_38
  · refine lv_iload_n hx hb dX7_makeGrid_30 rfl (lv_at hl 0 rfl) ?_
    refine lv_bipush (v := 6) hx hb dX7_makeGrid_31 (by decide) ?_
    refine lv_icmp_le (tgt := 39) hx hb dX7_makeGrid_33 (by decide) (fun c_8 => ?_) (fun c_8 => ?_)
    · refine lv_iload_n hx hb dX7_makeGrid_39 rfl (lv_at hl 1 rfl) ?_
      refine lv_if_lt (tgt := 47) hx hb dX7_makeGrid_40 (by decide) (fun c_9 => ?_) (fun c_9 => ?_)
      · refine lv_iconst (v := 3) hx hb dX7_makeGrid_47 (by decide) ?_
        exact r_iret hC hr hlk hw (κ, ad) rfl ⟨(doRf (κ := κ) (hd := hd) (th := th) (k := 32) (a := xa) (b := xb) (c := xc) ((if_pos (Int32.not_lt.mp c_7)).trans ((if_pos c_8).trans (if_neg (Int32.not_le.mpr c_9)))) (by decide)).symm, fun _ _ => rfl⟩ (Nat.zero_le _) (Nat.zero_le _) dX7_makeGrid_48
      · refine lv_iload_n hx hb dX7_makeGrid_43 rfl (lv_at hl 0 rfl) ?_
        refine lv_if_ge (tgt := 49) hx hb dX7_makeGrid_44 (by decide) (fun c_10 => ?_) (fun c_10 => ?_)
        · refine lv_aload_n hx hb dX7_makeGrid_49 rfl (lv_at hl 2 rfl) ?_
          refine lv_iconst (v := 1) hx hb dX7_makeGrid_50 (by decide) ?_
          refine lv_iload_n hx hb dX7_makeGrid_51 rfl (lv_at hl 1 rfl) ?_
          refine lv_iadd hx hb dX7_makeGrid_52 ?_
          refine r_ki hw (r_runV (rest := []) hC hw 5 (c_X7_hasRoomG (ad := ad) l _ (1 + (sA κ 2 (aN xb)))) rk7 (wXl 5 (by decide)) wXc5 1 gX7_makeGrid_X7_hasRoom rfl rfl rfl (by decide +kernel) ⟨Nat.le_of_ble_eq_true rfl, Nat.le_of_ble_eq_true rfl⟩ rfl hl.1 rfl (Nat.le_of_ble_eq_true rfl) dX7_makeGrid_53 ⟨Nat.le_of_ble_eq_true rfl, Nat.le_of_ble_eq_true rfl⟩) (fun r_12 u_13 H locs h_11 hw => ?_)
          rw [show sI κ 2 + (1 + (sA κ 2 (aN xb))) = ((sI κ 2) + 1) + (sA κ 2 (aN xb)) from (Int32.add_assoc _ _ _).symm] at h_11
          by_cases c_14 : (((sI κ 2) + 1) + (sA κ 2 (aN xb))) ≤ 60
          · rw [if_pos c_14] at h_11
            subst h_11
            refine lv_if_ne (tgt := 62) hx hb dX7_makeGrid_56 (by decide) (fun _ => ?_) (fun c_ => absurd c_ (by decide))
            refine lv_aload_n hx hb dX7_makeGrid_62 rfl (lv_at hl 2 rfl) ?_
            refine lv_dup hx hb dX7_makeGrid_63 rfl ?_
            refine r_get hC hw rk7 in_X7_makeGrid_7 5 (wXl 5 (by decide)) wXc5 1 (by decide) lk_X7_makeGrid_54 (v := .int (sI κ 2)) rfl dX7_makeGrid_64 ?_
            refine lv_iconst (v := 1) hx hb dX7_makeGrid_67 (by decide) ?_
            refine lv_iload_n hx hb dX7_makeGrid_68 rfl (lv_at hl 1 rfl) ?_
            refine lv_iadd hx hb dX7_makeGrid_69 ?_
            refine lv_iadd hx hb dX7_makeGrid_70 ?_
            have hg1 := hg ((if_pos (Int32.not_lt.mp c_7)).trans ((if_pos c_8).trans ((if_pos (Int32.not_lt.mp c_9)).trans ((if_pos c_10).trans (if_pos c_14)))))
            refine r_put hC hw rk7 in_X7_makeGrid_7 5 (wXl 5 (by decide)) wXc5 1 (by decide) lk_X7_makeGrid_54 rfl rfl rfl (Nat.le_of_ble_eq_true rfl) dX7_makeGrid_71 (fun H locs hw => ?_)
            obtain ⟨M, rn, hM, hrn, hr6, h60⟩ := grid_nums hm (Int32.not_lt.mp c_9) (Int32.not_lt.mp c_7) c_14
            have hpl : vp_in (sA κ 2 (aN xc)) 13 := in136 c_10 c_8
            have hMa : aN (sI κ 2) = M := by rw [hM]; exact nI_clamp (by omega)
            rw [hMa] at hF
            have hrna : aN (sA κ 2 (aN xb)) = rn := by rw [hrn]; exact nI_clamp (by omega)
            rw [hrna] at hg1
            have hr13 : vp_in (sA κ 2 (aN xb)) 13 := by rw [hrn]; exact vp_in_nI (by omega) (by decide)
            have hv : (sI κ 2) + (1 + (sA κ 2 (aN xb))) = nI (M + 1 + rn) := by rw [hM, hrn, show (1 : Int32) = nI 1 from rfl, nI_add, nI_add, Nat.add_assoc]
            replace hw := xP_made (v := (sI κ 2) + (1 + (sA κ 2 (aN xb)))) hMa hw
            generalize hve : (sI κ 2) + (1 + (sA κ 2 (aN xb))) = v at hv hw
            have n_0 : Nl (wV q ad (uI κ 2 v) τ M) (100 + 4 * M) := by show ¬ lvV _ M _; unfold lvV; omega
            have n_1 : Nl (wV q ad (uI κ 2 v) τ M) (100 + 4 * M + 1) := by show ¬ lvV _ M _; unfold lvV; omega
            have n_2 : Nl (wV q ad (uI κ 2 v) τ M) (100 + 4 * M + 2) := by show ¬ lvV _ M _; unfold lvV; omega
            have n_3 : Nl (wV q ad (uI κ 2 v) τ M) (100 + 4 * M + 3) := by show ¬ lvV _ M _; unfold lvV; omega
            have kp : Kp (wV q ad (uI κ 2 v) τ M) (wV q ad (uI κ 2 v) τ M) (fun _ => False) (fun r => r = 100 + 4 * M) := Kp.rf
            refine a_new hC hw rk6 in_X7_makeGrid_6 lk_X7_makeGrid_72 lki_X7_makeGrid_72 lkz_X7_makeGrid_72 (100 + 4 * M) n_0 (fs := [.int 0, .int 0, .null, .null, .null, .int 0, .long 0, .null]) (by decide) (show 0 + 1 ≤ 4 * g by omega) (show 0 + 8 ≤ 44 * g by omega) dX7_makeGrid_74 (fun a0 W H hup hw => ?_)
            have k_0 := At.n hup
            replace n_1 := n_1.n hup (by omega)
            replace n_2 := n_2.n hup (by omega)
            replace n_3 := n_3.n hup (by omega)
            replace kp := kp.n hup rfl n_0
            clear hup
            obtain ⟨kl_0, rfl, kc_0⟩ := k_0
            refine lv_dup hx hb dX7_makeGrid_77 rfl ?_
            refine lv_bipush (v := 10) hx hb dX7_makeGrid_78 (by decide) ?_
            refine lv_iload_n hx hb dX7_makeGrid_80 rfl (lv_at hl 1 rfl) ?_
            refine r_kv hw (r_runI (rest := [.ref (W.1 (100 + 4 * M))]) hC hw (c_X6_init l W _ (100 + 4 * M) 10 (sA κ 2 (aN xb)) hr13 kl_0 kc_0 n_1 n_2 n_3) 2 gX7_makeGrid_X6_init rfl rfl rfl lkz_X7_makeGrid_77 lk_X7_makeGrid_77 lki_X7_makeGrid_77 rfl (by decide +kernel) ⟨Nat.le_of_ble_eq_true rfl, Nat.le_of_ble_eq_true rfl⟩ rfl hl.1 rfl (Nat.le_of_ble_eq_true rfl) dX7_makeGrid_81 ⟨show 0 + 1 + 3 ≤ 4 * g by omega, show 0 + 8 + 36 ≤ 44 * g by omega⟩) (fun W2 H locs hth hw => ?_)
            obtain ⟨ad2, hw, hag2, e0⟩ := xNg (by omega) (hF.uI 2 v) kp hth hw
            rw [nwK hM] at hw
            have hag : ∀ j, lvX κ j → ad2 j = ad j := fun j hj => hag2 j (lvXV hMa (Nat.le_refl _) rfl rfl hj)
            have y4 : sA (mk κ 10 (sA κ 2 (aN xb))) 4 M = 10 := by rw [mk_A4 hM (by omega), va_up_self]
            have y5 : sA (mk κ 10 (sA κ 2 (aN xb))) 5 M = nI rn := by rw [mk_A5 hM (by omega), va_up_self]; exact hrn
            have yI : sI (mk κ 10 (sA κ 2 (aN xb))) 2 = nI (M + 1 + 0) := by rw [mk_made, hM, nI_1]
            have yF := WFa_mk hF hM (by omega) 10 (sA κ 2 (aN xb))
            have y0 : sA (mk κ 10 (sA κ 2 (aN xb))) 0 = sA κ 0 := mk_A κ 10 _ (by decide)
            have y1 : sA (mk κ 10 (sA κ 2 (aN xb))) 1 = sA κ 1 := mk_A κ 10 _ (by decide)
            have z0 : sI (mk κ 10 (sA κ 2 (aN xb))) 0 = sI κ 0 := (congrFun (mk_I κ 10 _) 0).trans (va_up_ne _ _ (by decide))
            have z1 : sI (mk κ 10 (sA κ 2 (aN xb))) 1 = sI κ 1 := (congrFun (mk_I κ 10 _) 1).trans (va_up_ne _ _ (by decide))
            have hA := act_32 κ hd th xa xb xc; rw [hrna] at hA
            obtain ⟨K2, hK2⟩ : ∃ X, X = mk κ 10 (sA κ 2 (aN xb)) := ⟨_, rfl⟩
            rw [← hK2] at hw y4 y5 yI yF y0 y1 z0 z1 hA
            refine lv_astore (lv' := [(4, .ref (W.1 (100 + 4 * M))), (3, .int (sA κ 2 (aN xc))), (2, .int (sA κ 2 (aN xb))), (0, .ref (ad 5)), (1, .ref (ad ρ))]) hx hb dX7_makeGrid_84 hl (by decide) rfl (fun ls hl => ?_)
            refine lv_iconst (v := 0) hx hb dX7_makeGrid_86 (by decide) ?_
            refine lv_istore (lv' := [(5, .int 0), (4, .ref (W.1 (100 + 4 * M))), (3, .int (sA κ 2 (aN xc))), (2, .int (sA κ 2 (aN xb))), (0, .ref (ad 5)), (1, .ref (ad ρ))]) hx hb dX7_makeGrid_87 hl (by decide) rfl (fun ls hl => ?_)
            refine lp_X7_makeGrid (κ := κ) (ad := ad) hC g rfl M rn (sA κ 2 (aN xc)) (sA κ 2 (aN xb)) v (sI κ 2) hrn hr6 h60 hMa hv hM hpl hg1 K2 (ad 5) (ad ρ) _ (fun ad' K H locs ls cs ss hcs hss hKe hm2 hfa hag hx4 hw hl => ?_) rn 0 0 ad2 K2 _ _ _ _ _ nI_0.symm (by omega) rfl rfl rfl yI yF y4 y5 ⟨y0, y1, z0, z1⟩ hag e0 hw (lv_sub hl [0, 1, 4, 5, 3, 2] rfl)
            have g5 : ad 5 = ad' 5 := (hag 5 (Or.inl (by decide))).symm
            have gρ : ad ρ = ad' ρ := (hag ρ hst.1).symm
            rw [g5, gρ, hx4] at hl
            replace hst := stepAt_cg (ad2 := ad') (κ' := K) (τ' := τ) hρ hfa.1 hfa.2.1 hfa.2.2.1 hfa.2.2.2 hX.1 hst
            refine lv_aload_n hx hb dX7_makeGrid_117 rfl (lv_at hl 2 rfl) ?_
            refine r_get hC hw rk7 in_X7_makeGrid_7 5 (wXl 5 (by decide)) wXc5 0 (by decide) lk_X7_makeGrid_9 (v := .ref (ad' 2)) rfl dX7_makeGrid_118 ?_
            refine lv_aload_n hx hb dX7_makeGrid_121 rfl (lv_at hl 3 rfl) ?_
            refine r_get hC hw rk5 in_X7_makeGrid_5 ρ hst.1 hst.2 1 (by decide) lk_X7_makeGrid_69 (v := .int xa) rfl dX7_makeGrid_122 ?_
            refine lv_aload hx hb dX7_makeGrid_125 (lv_at hl 1 rfl) ?_
            refine r_kv hw (r_runV (rest := []) hC hw 2 (c_X3_setThing l _ _ 2 (100 + 4 * M) 12 xa (by assumption) (wXl 2 (by decide)) wXc2 (thl (by rw [hm2]; omega)) (thc (by omega)) (wXl 12 (by decide)) wXc12) rk3 (wXl 2 (by decide)) wXc2 2 gX7_makeGrid_X3_setThing rfl rfl rfl (by decide +kernel) ⟨Nat.le_of_ble_eq_true rfl, Nat.le_of_ble_eq_true rfl⟩ rfl hl.1 rfl (Nat.le_of_ble_eq_true rfl) dX7_makeGrid_127 ⟨show _ ≤ 4 * g by omega, show _ ≤ 44 * g by omega⟩) (fun u_17 H locs h_15 hw => ?_)
            replace hw := xS_refs (v := sI κ 2 + 1) (rT_M hM (by omega) ad') hw
            refine lv_iconst (v := 0) hx hb dX7_makeGrid_130 (by decide) ?_
            exact r_iret hC hr hlk hw ((uA K 3 (aN xa) (sI κ 2 + 1)), ad') rfl ⟨(by rw [hKe, ← hA]; exact (doR0 (κ := κ) (hd := hd) (th := th) (k := 32) (a := xa) (b := xb) (c := xc) ((if_pos (Int32.not_lt.mp c_7)).trans ((if_pos c_8).trans ((if_pos (Int32.not_lt.mp c_9)).trans ((if_pos c_10).trans (if_pos c_14)))))).symm), hag⟩ (show _ ≤ 4 * g by omega) (show _ ≤ 44 * g by omega) dX7_makeGrid_131
          · rw [if_neg c_14] at h_11
            subst h_11
            refine lv_if_ne (tgt := 62) hx hb dX7_makeGrid_56 (by decide) (fun c_ => absurd (by decide) c_) (fun _ => ?_)
            refine lv_bipush (v := 7) hx hb dX7_makeGrid_59 (by decide) ?_
            exact r_iret hC hr hlk hw (κ, ad) rfl ⟨(doRf (κ := κ) (hd := hd) (th := th) (k := 32) (a := xa) (b := xb) (c := xc) ((if_pos (Int32.not_lt.mp c_7)).trans ((if_pos c_8).trans ((if_pos (Int32.not_lt.mp c_9)).trans ((if_pos c_10).trans (if_neg c_14))))) (by decide)).symm, fun _ _ => rfl⟩ (Nat.zero_le _) (Nat.zero_le _) dX7_makeGrid_61
        · refine lv_iconst (v := 3) hx hb dX7_makeGrid_47 (by decide) ?_
          exact r_iret hC hr hlk hw (κ, ad) rfl ⟨(doRf (κ := κ) (hd := hd) (th := th) (k := 32) (a := xa) (b := xb) (c := xc) ((if_pos (Int32.not_lt.mp c_7)).trans ((if_pos c_8).trans ((if_pos (Int32.not_lt.mp c_9)).trans (if_neg c_10)))) (by decide)).symm, fun _ _ => rfl⟩ (Nat.zero_le _) (Nat.zero_le _) dX7_makeGrid_48
    · refine lv_bipush (v := 7) hx hb dX7_makeGrid_36 (by decide) ?_
      exact r_iret hC hr hlk hw (κ, ad) rfl ⟨(doRf (κ := κ) (hd := hd) (th := th) (k := 32) (a := xa) (b := xb) (c := xc) ((if_pos (Int32.not_lt.mp c_7)).trans (if_neg c_8)) (by decide)).symm, fun _ _ => rfl⟩ (Nat.zero_le _) (Nat.zero_le _) dX7_makeGrid_38

