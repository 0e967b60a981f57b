/-- the fault that the class holds is one of its things -/
def WTk (κ : KS) (τ : TAU) : Prop := ∀ r, τ.2.2.2 = some r → ∃ k, k < aN (sI κ 2) ∧ r = 100 + 4 * k
theorem WT_pne {B M : Nat} {κ : KS} {t : Nat → Int32} {τ τ' : TAU} (h : INV B M κ (t 5)) (h3 : sI κ 3 = 1) (hr : WTk κ τ) (ht : τ'.2.2.2 = thX κ τ.2.2.2 (oK κ) (oA κ) (oB κ) (oC κ)) : WTk (pne (κ, t)).1 τ' := by
  intro r hr2
  rw [ht] at hr2
  have hM := (INV_step h h3).mN
  have hM0 := h.mN
  rw [hM]
  unfold thX at hr2
  split at hr2
  · obtain ⟨k, hk, e⟩ := hr r hr2
    exact ⟨k, by omega, e⟩
  · unfold thrX at hr2
    split at hr2
    · cases hr2
    · have hr3 : rT (sA κ 3 (aN (oA κ))) = some r := hr2
      by_cases h0 : sA κ 3 (aN (oA κ)) = 0
      · rw [rT0 h0] at hr3; cases hr3
      · rw [rT1 h0] at hr3; cases hr3
        exact ⟨_, by have := (h.reg h0).2; omega, rfl⟩
theorem pit_s (u : KS × (Nat → Int32)) (i : Nat) (h : sI (pit u i).1 3 = 1) : pit u (i + 1) = pne (pit u i) := if_pos h
theorem xS_at {q : Nat → ClassId} {ad : Nat → Nat} {κ : KS} {τ : TAU} {p mn : Nat} (hp : p < mn) (hmn : mn ≤ 150) (h0 : sI κ 0 = nI mn) {o a b c : Int32} (e0 : sA κ 0 (4 * p) = o) (e1 : sA κ 0 (4 * p + 1) = a) (e2 : sA κ 0 (4 * p + 2) = b) (e3 : sA κ 0 (4 * p + 3) = c) : stepAt q ad κ τ (400 + p) o a b c := by
  refine ⟨Or.inr (Or.inr (Or.inl ⟨by omega, ?_⟩)), ?_⟩
  · rw [h0, show aN (nI mn) = mn from nI_clamp (by omega)]; omega
  · show exX q ad κ τ (400 + p) = _
    rw [exS (by omega), e0, e1, e2, e3]
theorem step_wj {B M : Nat} {κ : KS} {th : Int32} (h : INV B M κ th) {k : Nat} (hk : k < 74) (a b c : Int32) : ¬ why (s1 κ) k a b c = 0 → ∃ j, j < 31 ∧ why (s1 κ) k a b c = nI j := fun _ => why_j (h.I5 _) hk a b c
theorem step_xa {κ : KS} {k : Nat} (hk : k < 74) {a b c : Int32} (hs : okStep k a b c) : 8 ≤ why (s1 κ) k a b c → vp_in a 8 := by
  intro h8
  have e := why_8 hk h8
  subst e
  exact hs.1
theorem step_g {κ : KS} : why (s1 κ) (oK κ) (oA κ) (oB κ) (oC κ) = 0 → mkN (s1 κ) (oK κ) (oB κ) ≤ nM κ := by
  intro h
  have h2 : oF κ = 0 := h
  unfold nM
  rw [if_pos h2]
  exact Nat.le_refl _
theorem nM_60 {B M : Nat} {κ : KS} {t : Nat → Int32} (h : INV B M κ (t 5)) (h3 : sI κ 3 = 1) : M + nM κ ≤ 60 := (INV_step h h3).m60
theorem pne_I01 {B M : Nat} {κ : KS} {t : Nat → Int32} (h : INV B M κ (t 5)) (h3 : sI κ 3 = 1) : sI (pne (κ, t)).1 0 = sI κ 0 ∧ sI (pne (κ, t)).1 1 = sI κ 1 := by
  obtain ⟨p, mn, hp, hmn, h0, h4, hk, hO, hok, _⟩ := oFacts h h3
  have a0 := act_I0 κ (t 4) (t 5) hk (oA κ) (oB κ) (oC κ)
  have a1 := act_I1 κ (t 4) (t 5) hk (oA κ) (oB κ) (oC κ)
  by_cases hF : oF κ = 0
  · rw [pne_0 hF]
    generalize act κ (t 4) (t 5) (oK κ) (oA κ) (oB κ) (oC κ) = K at *
    by_cases hK : sI K 3 = 1
    · rw [o3_1 hK]; exact ⟨a0, a1⟩
    · rw [o3_0 hK]; exact ⟨a0, a1⟩
  · by_cases hf : 0 ≤ (fR κ (oF κ)).1
    · rw [pne_f hF hf, o3_1 (show sI (uI (fK κ (oF κ)) 6 (nI (fR κ (oF κ)).2)) 3 = 1 from h3)]; exact ⟨rfl, rfl⟩
    · rw [pne_s hF hf, o3_0 (s33 _)]; exact ⟨rfl, rfl⟩
set_option maxHeartbeats 4000000 in
set_option maxRecDepth 100000 in
theorem lp_X8_step {p : Program} {l : Launch} {e : Env} {R : Room} {s : State} {m : MethodId} {args : Array Value} {below : List Frame} {meth : Method} {c : Code} {Q : State → Prop} {D : va_G} {q : Nat → ClassId} {A : Nat → Prop} {H0 : Heap}  (hC : CallFix p m c cX8_step 3 s args wsX8_step RX8) (hR : R = (rmc 6 142 240 2640)) {B M n : Nat} {n0 : Int32} {ad0 : Nat → Nat} {κ0 : KS} {t0 : Nat → Int32} (hn0 : n0 = nI n) (hn : n ≤ 100) (hB : B + 100 < 2 ^ 31) (kk : ∀ (ad : Nat → Nat) (κ : KS) (t : Nat → Int32) (τ : TAU) (H : Heap) (locs : List Loc) (ls : Array Slot) (cs ss : Nat), (κ, t) = pit (κ0, t0) n → RLk κ t τ → PR ad κ τ → WTk κ τ → (∀ j, j < 15 → ad j = ad0 j) → cs ≤ 240 → ss ≤ 2640 → rX D q A H0 s (wX q ad κ τ) H locs → lv_has ls 3 [(0, .ref (ad 0)), (1, .int n0)] → W p l e (rmc 6 142 240 2640) s m args below meth c H locs cs ss Q (F0 m 70 ls [])) : ∀ (m' i : Nat) (I : Int32) (ad : Nat → Nat) (κ : KS) (t : Nat → Int32) (τ : TAU) (M' : Nat) (H : Heap) (locs : List Loc) (ls : Array Slot) (cs ss : Nat), I = nI i → i + m' = n → (κ, t) = pit (κ0, t0) i → INV (B + i) M' κ (t 5) → RLk κ t τ → PR ad κ τ → WTk κ τ → (∀ j, j < 15 → ad j = ad0 j) → cs + 4 * M = 4 * M' → ss + 44 * M = 44 * M' → rX D q A H0 s (wX q ad κ τ) H locs → lv_has ls 3 [(2, .int I), (0, .ref (ad 0)), (1, .int n0)] → W p l e (rmc 6 142 240 2640) s m args below meth c H locs cs ss Q (F0 m 27 ls []) := by
  subst hR
  have hx := hC.1
  have hb := hC.2.1
  intro m'
  induction m' with
  | zero =>
    intro i I ad κ t τ M' H locs ls cs ss hI hi hpit hV hRL hP hWT hag hcs hss hw hl
    refine lv_iload_n hx hb dX8_step_27 rfl (lv_at hl 0 rfl) ?_
    refine lv_iload_n hx hb dX8_step_28 rfl (lv_at hl 2 rfl) ?_
    refine lv_icmp_ge (tgt := 70) hx hb dX8_step_29 (by decide) (fun _ => ?_) (fun c_ => absurd (by rw [hI, hn0]; exact nI_le (by omega) (by omega)) c_)
    obtain rfl : i = n := by omega
    exact kk ad κ t τ H locs ls cs ss hpit hRL hP hWT hag (by have := hV.m60; omega) (by have := hV.m60; omega) hw (lv_sub hl [1, 2] rfl)
  | succ m' ih =>
    intro i I ad κ t τ M' H locs ls cs ss hI hi hpit hV hRL hP hWT hag hcs hss hw hl
    refine lv_iload_n hx hb dX8_step_27 rfl (lv_at hl 0 rfl) ?_
    refine lv_iload_n hx hb dX8_step_28 rfl (lv_at hl 2 rfl) ?_
    refine lv_icmp_ge (tgt := 70) hx hb dX8_step_29 (by decide) (fun c_ => absurd c_ (by rw [hI, hn0]; exact nI_ge (by omega) (by omega))) (fun _ => ?_)
    refine lv_aload_n hx hb dX8_step_32 rfl (lv_at hl 1 rfl) ?_
    refine r_get hC hw rk8 in_X8_step_8 0 (wXl 0 (by decide)) wXc0 2 (by decide) lk_X8_step_28 (v := .ref (ad 3)) rfl dX8_step_33 ?_
    refine r_get hC hw rk4 in_X8_step_4 3 (wXl 3 (by decide)) wXc3 6 (by decide) lk_X8_step_75 (v := .int (sI κ 3)) rfl dX8_step_36 ?_
    refine lv_iconst (v := 1) hx hb dX8_step_39 (by decide) ?_
    refine lv_icmp_ne (tgt := 70) hx hb dX8_step_40 (by decide) (fun c_1 => ?_) (fun c_1 => ?_)
    · have hstop : (κ, t) = pit (κ0, t0) n := by
        have e := pit_stop (u := (κ0, t0)) (i := i) (by rw [← hpit]; exact c_1) (m' + 1)
        rw [hi] at e; rw [e]; exact hpit
      exact kk ad κ t τ H locs ls cs ss hstop hRL hP hWT hag (by have := hV.m60; omega) (by have := hV.m60; omega) hw (lv_sub hl [1, 2] rfl)
    · refine lv_aload_n hx hb dX8_step_43 rfl (lv_at hl 1 rfl) ?_
      refine r_get hC hw rk8 in_X8_step_8 0 (wXl 0 (by decide)) wXc0 2 (by decide) lk_X8_step_28 (v := .ref (ad 3)) rfl dX8_step_44 ?_
      refine lv_aload_n hx hb dX8_step_47 rfl (lv_at hl 1 rfl) ?_
      refine r_get hC hw rk8 in_X8_step_8 0 (wXl 0 (by decide)) wXc0 0 (by decide) lk_X8_step_10 (v := .ref (ad 1)) rfl dX8_step_48 ?_
      refine lv_aload_n hx hb dX8_step_51 rfl (lv_at hl 1 rfl) ?_
      refine r_get hC hw rk8 in_X8_step_8 0 (wXl 0 (by decide)) wXc0 2 (by decide) lk_X8_step_28 (v := .ref (ad 3)) rfl dX8_step_52 ?_
      refine r_get hC hw rk4 in_X8_step_4 3 (wXl 3 (by decide)) wXc3 7 (by decide) lk_X8_step_78 (v := .int (sI κ 4)) rfl dX8_step_55 ?_
      have h3 : sI κ 3 = 1 := c_1
      obtain ⟨pp, mn, hpp, hmn, hk0, hk4, hk, hO, hok, q0, q1, q2, q3⟩ := oFacts hV h3
      refine r_kq hw (r_runV (rest := [.ref (ad 3)]) hC hw 1 (c_X1_getStep (ad := ad) l _ (sI κ 4) hP) rk1 (wXl 1 (by decide)) wXc1 1 gX8_step_X1_getStep rfl rfl rfl (by decide +kernel) ⟨Nat.le_of_ble_eq_true rfl, Nat.le_of_ble_eq_true rfl⟩ rfl hl.1 rfl (Nat.le_of_ble_eq_true rfl) dX8_step_58 ⟨show cs + 0 ≤ 240 by have := hV.m60; omega, show ss + 0 ≤ 2640 by have := hV.m60; omega⟩) (fun r_3 u_4 H locs h_2 hw => ?_)
      have hgs : r_3 = some (ad (400 + pp)) := by
        rw [h_2, hk4, if_pos (nI_pos' (by omega)), if_neg (by rw [hk0]; exact nI_ge hpp (by omega)), show aN (nI pp) = pp from nI_clamp (by omega)]
      subst hgs
      refine r_topv (y := .ref (ad (400 + pp))) rfl ?_
      have hm60 := nM_60 hV h3
      refine r_kv hw (r_runV (rest := []) hC hw 3 (c_X4_doStep (ad := ad) l _ (400 + pp) (oK κ) hk (oO κ) (oA κ) (oB κ) (oC κ) (t 4) (t 5) hO (xS_at hpp hmn hk0 q0 q1 q2 q3) hok hV.wfx hV.m61 (hV.wfa (hRL h3).2) (by omega) hV.i5 hV.i6 (hV.t7 (by omega)) (hRL h3).1 (hRL h3).2 (by rw [hV.mN]; exact vr_lt hV.it hV.m60) (nM κ) step_g hP (step_wj hV hk _ _ _) (step_xa hk hok) (act_I0 _ _ _ hk _ _ _) (act_I1 _ _ _ hk _ _ _)) rk4 (wXl 3 (by decide)) wXc3 1 gX8_step_X4_doStep rfl rfl rfl (by decide +kernel) ⟨Nat.le_of_ble_eq_true rfl, Nat.le_of_ble_eq_true rfl⟩ rfl hl.1 rfl (Nat.le_of_ble_eq_true rfl) dX8_step_61 ⟨show cs + 0 + 4 * nM κ ≤ 240 by have := hV.m60; omega, show ss + 0 + 44 * nM κ ≤ 2640 by have := hV.m60; omega⟩) (fun u_7 H locs h_5 hw => ?_)
      obtain ⟨⟨hd1, v, hd2⟩, hd3⟩ := h_5
      obtain ⟨κ2, τ2, ad2⟩ := u_7
      dsimp only at hd1 hd2 hd3 hw
      have hag2 : ∀ j, j < 15 → ad2 j = ad0 j := fun j hj => (hd3 j (Or.inl hj)).trans (hag j hj)
      have g0 : ad 0 = ad2 0 := (hd3 0 (Or.inl (by decide))).symm
      rw [g0] at hl
      have hpe := dX_pne hV h3
      rw [hpe] at hd1
      have hpi : (κ2, (pne (κ, t)).2) = pit (κ0, t0) (i + 1) := by rw [pit_s _ _ (by rw [← hpit]; exact h3), ← hpit, hd1]
      have hRL2 : RLk κ2 (pne (κ, t)).2 τ2 := by rw [hd1]; exact RL_pne hV h3 hRL (by rw [hd2])
      have hV2 : INV (B + (i + 1)) (M' + nM κ) κ2 ((pne (κ, t)).2 5) := by rw [hd1]; exact INV_step hV h3
      have hWT2 : WTk κ2 τ2 := by rw [hd1]; exact WT_pne hV h3 hWT (by rw [hd2])
      have hI01 : sI κ2 0 = sI κ 0 ∧ sI κ2 1 = sI κ 1 := by rw [hd1]; exact pne_I01 hV h3
      have hP2 : PR ad2 κ2 τ2 := PR_cg hP hI01.1 hI01.2 (by rw [hd2]) (by rw [hd2]) hd3
      clear hpe
      refine lv_iinc (v := I + 1) (lv' := [(2, .int (I + 1)), (0, .ref (ad2 0)), (1, .int n0)]) hx hb dX8_step_64 hl (k := 0) rfl (by first | rfl | decide) (by decide) rfl (fun ls hl => ?_)
      refine lv_goto (tgt := 27) hx hb dX8_step_67 (by decide) ?_
      exact ih (i + 1) (I + 1) ad2 κ2 (pne (κ, t)).2 τ2 (M' + nM κ) H locs ls (cs + 0 + 4 * nM κ) (ss + 0 + 44 * nM κ) (by rw [hI]; exact nI_1 i) (by omega) hpi hV2 hRL2 hP2 hWT2 hag2 (by omega) (by omega) hw (lv_sub hl [0, 1, 2] rfl)

set_option maxHeartbeats 4000000 in
set_option maxRecDepth 100000 in
theorem c_X8_step (l : Launch) {D : va_G} {q : Nat → ClassId} {ad : Nat → Nat} {κ : KS} {τ : TAU} (sz : Nat) {B M : Nat} {t : Nat → Int32} (hV : INV B M κ (t 5)) (hRL : RLk κ t τ) (hP : PR ad κ τ) (hWT : WTk κ τ) (hB : B + 100 < 2 ^ 31) (n0 : Int32) : Met l yX8_step wsX8_step (rmc 6 142 240 2640) (va_Pc [.ref (ad 0), .int n0] (rPre D q (wX q ad κ τ) sz)) (va_Qi (fun (r : Int32) (u : KS × TAU × (Nat → Nat)) => ∃ t', (r, (u.1, t')) = stepR κ t n0 ∧ RLk u.1 t' u.2.1 ∧ PR u.2.2 u.1 u.2.1 ∧ WTk u.1 u.2.1 ∧ ∀ j, j < 15 → u.2.2 j = ad j) (fun (u : KS × TAU × (Nat → Nat)) tt => rPo D (rA (wX q ad κ τ) sz) (wX q u.2.2 u.1 u.2.1) tt) (rA (wX q ad κ τ) sz)) 240 2640 (rA (wX q ad κ τ) sz) := by
  refine r_start (cc := cX8_step) (maxL := 3) (ret := (some .int)) (by decide) rfl (Nat.le_of_ble_eq_true rfl) ?_
  intro p e s m below meth c ls hC hr hlk hnm hsz hw hl
  have hx := hC.1
  have hb := hC.2.1
  have hl : lv_has ls 3 [(0, .ref (ad 0)), (1, .int n0)] := hl
  refine lv_aload_n hx hb dX8_step_0 rfl (lv_at hl 0 rfl) ?_
  refine r_get hC hw rk8 in_X8_step_8 0 (wXl 0 (by decide)) wXc0 2 (by decide) lk_X8_step_28 (v := .ref (ad 3)) rfl dX8_step_1 ?_
  refine r_get hC hw rk4 in_X8_step_4 3 (wXl 3 (by decide)) wXc3 6 (by decide) lk_X8_step_75 (v := .int (sI κ 3)) rfl dX8_step_4 ?_
  refine lv_if_ne (tgt := 12) hx hb dX8_step_7 (by decide) (fun c_1 => ?_) (fun c_1 => ?_)
  · refine lv_iload_n hx hb dX8_step_12 rfl (lv_at hl 1 rfl) ?_
    refine lv_if_lt (tgt := 22) hx hb dX8_step_13 (by decide) (fun c_2 => ?_) (fun c_2 => ?_)
    · refine lv_bipush (v := (-2)) hx hb dX8_step_22 (by decide) ?_
      exact r_iret hC hr hlk hw (κ, τ, ad) rfl ⟨t, by unfold stepR; rw [if_neg c_1, if_neg (fun h => h.1 c_2)], hRL, hP, hWT, fun _ _ => rfl⟩ (Nat.zero_le _) (Nat.zero_le _) dX8_step_24
    · refine lv_iload_n hx hb dX8_step_16 rfl (lv_at hl 1 rfl) ?_
      refine lv_bipush (v := 100) hx hb dX8_step_17 (by decide) ?_
      refine lv_icmp_le (tgt := 25) hx hb dX8_step_19 (by decide) (fun c_3 => ?_) (fun c_3 => ?_)
      · refine lv_iconst (v := 0) hx hb dX8_step_25 (by decide) ?_
        refine lv_istore_n (lv' := [(2, .int 0), (0, .ref (ad 0)), (1, .int n0)]) hx hb dX8_step_26 rfl hl (by decide) rfl (fun ls hl => ?_)
        obtain ⟨n, hn, hn0⟩ := nI_100 ⟨c_2, (Int32.not_lt.mpr c_3)⟩
        refine lp_X8_step hC rfl (B := B) (M := M) (ad0 := ad) (κ0 := κ) (t0 := t) hn0 hn hB (fun ad2 κ2 t2 τ2 H locs ls cs ss hpit hRL2 hP2 hWT2 hag hcs hss hw hl => ?_) n 0 0 ad κ t τ M _ _ _ 0 0 nI_0.symm (by omega) rfl hV hRL hP hWT (fun _ _ => rfl) (by omega) (by omega) hw (lv_sub hl [0, 1, 2] rfl)
        refine lv_aload_n hx hb dX8_step_70 rfl (lv_at hl 0 rfl) ?_
        refine r_get hC hw rk8 in_X8_step_8 0 (wXl 0 (by decide)) wXc0 2 (by decide) lk_X8_step_28 (v := .ref (ad2 3)) rfl dX8_step_71 ?_
        refine r_get hC hw rk4 in_X8_step_4 3 (wXl 3 (by decide)) wXc3 6 (by decide) lk_X8_step_75 (v := .int (sI κ2 3)) rfl dX8_step_74 ?_
        refine lv_iconst (v := 1) hx hb dX8_step_77 (by decide) ?_
        refine lv_isub hx hb dX8_step_78 ?_
        have haN : aN n0 = n := by rw [hn0]; exact nI_clamp (by omega)
        exact r_iret hC hr hlk hw (κ2, τ2, ad2) rfl ⟨t2, by unfold stepR; rw [if_neg c_1, if_pos ⟨c_2, (Int32.not_lt.mpr c_3)⟩, haN, ← hpit], hRL2, hP2, hWT2, hag⟩ (by omega) (by omega) dX8_step_79
      · refine lv_bipush (v := (-2)) hx hb dX8_step_22 (by decide) ?_
        exact r_iret hC hr hlk hw (κ, τ, ad) rfl ⟨t, by unfold stepR; rw [if_neg c_1, if_neg (fun h => h.2 (Int32.not_le.mp c_3))], hRL, hP, hWT, fun _ _ => rfl⟩ (Nat.zero_le _) (Nat.zero_le _) dX8_step_24
  · refine lv_iconst (v := (-1)) hx hb dX8_step_10 (by decide) ?_
    exact r_iret hC hr hlk hw (κ, τ, ad) rfl ⟨t, by unfold stepR; rw [if_pos c_1], hRL, hP, hWT, fun _ _ => rfl⟩ (Nat.zero_le _) (Nat.zero_le _) dX8_step_11

