/-- how many things an operation makes -/
def mkN (κ : KS) (k : Nat) (b : Int32) : Nat := match k with
  | 31 => 1
  | 32 => 1 + aN (sA κ 2 (aN b))
  | 33 => 1
  | 67 => 1
  | _ => 0
theorem nn_FB {κ : KS} (h : FB κ) (k : Nat) (a b c : Int32) (h3 : k ≠ 23) (h4 : k ≠ 24) : nnOp κ k a b c := by
  unfold nnOp
  split
  · exact fdB_nn (f2d_B (h.1 _))
  · exact ffB_nn (d2f_B (h.2 _ _))
  · exact ffB_nn (fdiv_B (h.1 _))
  · exact fdB_nn (ddiv_B (h.2 _ _))
  · exact absurd rfl h3
  · exact absurd rfl h4
  · exact ffB_nn (d2f_B (h.2 _ _))
  · exact fdB_nn (f2d_B (h.1 _))
  · trivial
theorem doR68 (κ : KS) (hd th a b c : Int32) : doR κ hd th 68 a b c = (why κ 68 a b c, κ) := by
  unfold doR
  show (_, if why κ 68 a b c = 0 then κ else κ) = _
  rw [ite_self]
theorem c12 {x : Int32} (h : ∃ n, n ≤ 12 ∧ x = nI n) : nI 12 ≤ x ↔ x = 12 := by
  obtain ⟨n, hn, rfl⟩ := h
  constructor
  · intro h1
    have := (nI_leI (by decide) (by omega)).mp h1
    rw [show n = 12 by omega]; rfl
  · intro h1; rw [h1]; decide
theorem c0 {x : Int32} (h : ∃ n, n ≤ 12 ∧ x = nI n) (h0 : ¬ x = 0) : ∃ n, n < 12 ∧ x = nI (n + 1) := by
  obtain ⟨n, hn, rfl⟩ := h
  cases n with
  | zero => exact absurd rfl h0
  | succ n => exact ⟨n, by omega, rfl⟩
theorem c6nn {x : Int32} (h : ∃ n, n ≤ 12 ∧ x = nI n) : ¬ x < 0 := by
  obtain ⟨n, hn, rfl⟩ := h
  exact nI_nn2 (by omega)
theorem doR29 {κ : KS} {τ : TAU} {hd th a b c r : Int32} {u : KS × TAU} (hc : ∃ n, n ≤ 12 ∧ sI κ 6 = nI n) (h : (r, u) = if (nI 12) ≤ (sI κ 6) then ((7 : Int32), (κ, τ)) else (0, (uI (uA κ 9 (aN (sI κ 6)) (sI κ 4)) 6 (sI κ 6 + 1), (τ.1, τ.2.1, a, τ.2.2.2)))) : (r, u.1) = doR κ hd th 29 a b c ∧ ∃ v, u.2 = (τ.1, τ.2.1, v, τ.2.2.2) ∧ (r = 0 → v = nxt κ 29 a b τ.2.2.1) := by
  by_cases h1 : (nI 12) ≤ (sI κ 6)
  · rw [if_pos h1] at h
    cases h
    exact ⟨(doRf (κ := κ) (hd := hd) (th := th) (k := 29) (a := a) (b := b) (c := c) (if_pos ((c12 hc).mp h1)) (by decide)).symm, τ.2.2.1, rfl, fun h => absurd h (by decide)⟩
  · rw [if_neg h1] at h
    cases h
    exact ⟨(doR0 (κ := κ) (hd := hd) (th := th) (k := 29) (a := a) (b := b) (c := c) (if_neg (fun h => h1 ((c12 hc).mpr h)))).symm, a, rfl, fun _ => rfl⟩
theorem doR30a {κ : KS} {hd th a b c : Int32} (h0 : sI κ 6 = 0) : ((0 : Int32), uI κ 3 2) = doR κ hd th 30 a b c := by
  rw [doR0 (κ := κ) (k := 30) rfl]
  exact congrArg (Prod.mk 0) (if_pos h0).symm
theorem h60n {κ : KS} {n : Nat} (hn : sI κ 6 = nI (n + 1)) (h12 : n < 12) : ¬ sI κ 6 = 0 := by
  intro e
  rw [hn] at e
  have h : aN (nI (n + 1)) = aN 0 := by rw [e]
  rw [show aN (nI (n + 1)) = n + 1 from nI_clamp (by omega)] at h
  exact absurd h (by show ¬ n + 1 = 0; omega)
theorem nxt30 {κ : KS} {n : Nat} {a b d : Int32} (hn : sI κ 6 = nI (n + 1)) (h12 : n < 12) : sA κ 9 n + 1 = nxt κ 30 a b d := by
  show _ = if sI κ 6 = 0 then d else sA κ 9 (aN (sI κ 6 - 1)) + 1
  rw [if_neg (h60n hn h12), hn, nI_pred, show aN (nI n) = n from nI_clamp (by omega)]
theorem doR30b {κ : KS} {hd th a b c : Int32} {n : Nat} (hn : sI κ 6 = nI (n + 1)) (h12 : n < 12) : ((0 : Int32), uI κ 6 (nI n)) = doR κ hd th 30 a b c := by
  rw [doR0 (κ := κ) (k := 30) rfl]
  have h0 := h60n hn h12
  refine congrArg (Prod.mk 0) ?_
  show _ = if sI κ 6 = 0 then uI κ 3 2 else uI κ 6 (sI κ 6 - 1)
  rw [if_neg h0, hn, nI_pred]
set_option maxHeartbeats 4000000 in
set_option maxRecDepth 100000 in
theorem c_X4_perform_0 (l : Launch) {D : va_G} {q : Nat → ClassId} {ad : Nat → Nat} {κ : KS} {τ : TAU} (sz : Nat) (ρ : Nat) (xa xb xc hd th : Int32) (hst : stepAt q ad κ τ ρ 0 xa xb xc) (hs : okStep 0 xa xb xc)(hX : WFx κ) (hm : vp_in (sI κ 2) 61) (hF : WFa κ τ (aN (sI κ 2))) (hρ : 400 ≤ ρ) (hB : FB κ) (hc6 : ∃ n, n ≤ 12 ∧ sI κ 6 = nI n) (hT : ¬ sI κ 7 < 0) (hhd : hd = sI κ 9) (hth : τ.2.2.2 = rT th) (hthv : ¬ th = 0 → aN (th - 1) < aN (sI κ 2)) (g : Nat) (hg : why κ 0 xa xb xc = 0 → mkN κ 0 xb ≤ g) : Met l yX4_perform wsX4_perform (rmc 4 99 (4 * g) (44 * g)) (va_Pc [.ref (ad 3), .ref (ad ρ)] (rPre D q (wX q ad κ τ) sz)) (va_Qi (fun (r : Int32) (u : KS × TAU × (Nat → Nat)) => ((r, u.1) = doR κ hd th 0 xa xb xc ∧ ∃ v, u.2.1 = (τ.1, τ.2.1, v, τ.2.2.2) ∧ (r = 0 → v = nxt κ 0 xa xb τ.2.2.1)) ∧ ∀ i, lvX κ i → u.2.2 i = ad i) (fun (u : KS × TAU × (Nat → Nat)) tt => rPo D (rA (wX q ad κ τ) sz) (wX q u.2.2 u.1 u.2.1) tt) (rA (wX q ad κ τ) sz)) (4 * g) (44 * g) (rA (wX q ad κ τ) sz) := by
  refine r_start (cc := cX4_perform) (maxL := 2) (ret := (some .int)) (by decide) rfl (Nat.le_of_ble_eq_true rfl) ?_
  intro p e s m below meth c ls hC hr hlk hnm hsz hw hl
  have hx := hC.1
  have hb := hC.2.1
  have hl : lv_has ls 2 [(0, .ref (ad 3)), (1, .ref (ad ρ))] := hl
  refine lv_aload_n hx hb dX4_perform_0 rfl (lv_at hl 1 rfl) ?_
  refine r_get hC hw rk5 in_X4_perform_5 ρ hst.1 hst.2 0 (by decide) lk_X4_perform_95 (v := .int 0) rfl dX4_perform_1 ?_
  refine lv_iconst (v := 1) hx hb dX4_perform_4 (by decide) ?_
  refine lv_icmp_lt (tgt := 26) hx hb dX4_perform_5 (by decide) (fun _ => ?_) (fun c_ => absurd (by decide) c_)
  refine lv_aload_n hx hb dX4_perform_26 rfl (lv_at hl 1 rfl) ?_
  refine r_get hC hw rk5 in_X4_perform_5 ρ hst.1 hst.2 0 (by decide) lk_X4_perform_95 (v := .int 0) rfl dX4_perform_27 ?_
  refine lv_lookup (off := 82) (tgt := 112) hx hb dX4_perform_30 (by decide) (by decide) (by decide) ?_
  refine lv_aload_n hx hb dX4_perform_112 rfl (lv_at hl 0 rfl) ?_
  refine lv_iconst (v := 2) hx hb dX4_perform_113 (by decide) ?_
  refine r_put hC hw rk4 in_X4_perform_4 3 (wXl 3 (by decide)) wXc3 6 (by decide) lk_X4_perform_68 rfl rfl rfl (Nat.le_of_ble_eq_true rfl) dX4_perform_114 (fun H locs hw => ?_)
  replace hw := xP_phase hw
  refine lv_iconst (v := 0) hx hb dX4_perform_117 (by decide) ?_
  exact r_iret hC hr hlk hw ((uI κ 3 2), τ, ad) rfl ⟨⟨(doR0 (κ := κ) (hd := hd) (th := th) (k := 0) (a := xa) (b := xb) (c := xc) rfl).symm, _, rfl, fun _ => rfl⟩, fun _ _ => rfl⟩ (show _ ≤ 4 * g by omega) (show _ ≤ 44 * g by omega) dX4_perform_118

set_option maxHeartbeats 4000000 in
set_option maxRecDepth 100000 in
theorem c_X4_perform_1 (l : Launch) {D : va_G} {q : Nat → ClassId} {ad : Nat → Nat} {κ : KS} {τ : TAU} (sz : Nat) (ρ : Nat) (xa xb xc hd th : Int32) (hst : stepAt q ad κ τ ρ 1 xa xb xc) (hs : okStep 1 xa xb xc)(hX : WFx κ) (hm : vp_in (sI κ 2) 61) (hF : WFa κ τ (aN (sI κ 2))) (hρ : 400 ≤ ρ) (hB : FB κ) (hc6 : ∃ n, n ≤ 12 ∧ sI κ 6 = nI n) (hT : ¬ sI κ 7 < 0) (hhd : hd = sI κ 9) (hth : τ.2.2.2 = rT th) (hthv : ¬ th = 0 → aN (th - 1) < aN (sI κ 2)) (g : Nat) (hg : why κ 1 xa xb xc = 0 → mkN κ 1 xb ≤ g) : Met l yX4_perform wsX4_perform (rmc 4 99 (4 * g) (44 * g)) (va_Pc [.ref (ad 3), .ref (ad ρ)] (rPre D q (wX q ad κ τ) sz)) (va_Qi (fun (r : Int32) (u : KS × TAU × (Nat → Nat)) => ((r, u.1) = doR κ hd th 1 xa xb xc ∧ ∃ v, u.2.1 = (τ.1, τ.2.1, v, τ.2.2.2) ∧ (r = 0 → v = nxt κ 1 xa xb τ.2.2.1)) ∧ ∀ i, lvX κ i → u.2.2 i = ad i) (fun (u : KS × TAU × (Nat → Nat)) tt => rPo D (rA (wX q ad κ τ) sz) (wX q u.2.2 u.1 u.2.1) tt) (rA (wX q ad κ τ) sz)) (4 * g) (44 * g) (rA (wX q ad κ τ) sz) := by
  have hi0 : vp_in xa 8 := hs.1
  refine r_start (cc := cX4_perform) (maxL := 2) (ret := (some .int)) (by decide) rfl (Nat.le_of_ble_eq_true rfl) ?_
  intro p e s m below meth c ls hC hr hlk hnm hsz hw hl
  have hx := hC.1
  have hb := hC.2.1
  have hl : lv_has ls 2 [(0, .ref (ad 3)), (1, .ref (ad ρ))] := hl
  refine lv_aload_n hx hb dX4_perform_0 rfl (lv_at hl 1 rfl) ?_
  refine r_get hC hw rk5 in_X4_perform_5 ρ hst.1 hst.2 0 (by decide) lk_X4_perform_95 (v := .int 1) rfl dX4_perform_1 ?_
  refine lv_iconst (v := 1) hx hb dX4_perform_4 (by decide) ?_
  refine lv_icmp_lt (tgt := 26) hx hb dX4_perform_5 (by decide) (fun c_ => absurd c_ (by decide)) (fun _ => ?_)
  refine lv_aload_n hx hb dX4_perform_8 rfl (lv_at hl 1 rfl) ?_
  refine r_get hC hw rk5 in_X4_perform_5 ρ hst.1 hst.2 0 (by decide) lk_X4_perform_95 (v := .int 1) rfl dX4_perform_9 ?_
  refine lv_bipush (v := 26) hx hb dX4_perform_12 (by decide) ?_
  refine lv_icmp_gt (tgt := 26) hx hb dX4_perform_14 (by decide) (fun c_ => absurd c_ (by decide)) (fun _ => ?_)
  refine lv_aload_n hx hb dX4_perform_17 rfl (lv_at hl 0 rfl) ?_
  refine r_get hC hw rk4 in_X4_perform_4 3 (wXl 3 (by decide)) wXc3 2 (by decide) lk_X4_perform_24 (v := .ref (ad 4)) rfl dX4_perform_18 ?_
  refine lv_aload_n hx hb dX4_perform_21 rfl (lv_at hl 1 rfl) ?_
  refine r_ki hw (r_runV (rest := []) hC hw 4 (c_X2_reckon_1 l _ ρ xa xb xc hd th hst hs (nn_FB hB 1 _ _ _ (by decide) (by decide))) rk2 (wXl 4 (by decide)) wXc4 1 gX4_perform_X2_reckon rfl rfl rfl (by decide +kernel) ⟨Nat.le_of_ble_eq_true rfl, Nat.le_of_ble_eq_true rfl⟩ rfl hl.1 rfl (Nat.le_of_ble_eq_true rfl) dX4_perform_22 ⟨Nat.le_of_ble_eq_true rfl, Nat.le_of_ble_eq_true rfl⟩) (fun r_2 u_3 H locs h_1 hw => ?_)
  exact r_iret hC hr hlk hw (u_3, τ, ad) rfl ⟨⟨h_1, τ.2.2.1, rfl, fun _ => rfl⟩, fun _ _ => rfl⟩ (show _ ≤ 4 * g by omega) (show _ ≤ 44 * g by omega) dX4_perform_25

set_option maxHeartbeats 4000000 in
set_option maxRecDepth 100000 in
theorem c_X4_perform_2 (l : Launch) {D : va_G} {q : Nat → ClassId} {ad : Nat → Nat} {κ : KS} {τ : TAU} (sz : Nat) (ρ : Nat) (xa xb xc hd th : Int32) (hst : stepAt q ad κ τ ρ 2 xa xb xc) (hs : okStep 2 xa xb xc)(hX : WFx κ) (hm : vp_in (sI κ 2) 61) (hF : WFa κ τ (aN (sI κ 2))) (hρ : 400 ≤ ρ) (hB : FB κ) (hc6 : ∃ n, n ≤ 12 ∧ sI κ 6 = nI n) (hT : ¬ sI κ 7 < 0) (hhd : hd = sI κ 9) (hth : τ.2.2.2 = rT th) (hthv : ¬ th = 0 → aN (th - 1) < aN (sI κ 2)) (g : Nat) (hg : why κ 2 xa xb xc = 0 → mkN κ 2 xb ≤ g) : Met l yX4_perform wsX4_perform (rmc 4 99 (4 * g) (44 * g)) (va_Pc [.ref (ad 3), .ref (ad ρ)] (rPre D q (wX q ad κ τ) sz)) (va_Qi (fun (r : Int32) (u : KS × TAU × (Nat → Nat)) => ((r, u.1) = doR κ hd th 2 xa xb xc ∧ ∃ v, u.2.1 = (τ.1, τ.2.1, v, τ.2.2.2) ∧ (r = 0 → v = nxt κ 2 xa xb τ.2.2.1)) ∧ ∀ i, lvX κ i → u.2.2 i = ad i) (fun (u : KS × TAU × (Nat → Nat)) tt => rPo D (rA (wX q ad κ τ) sz) (wX q u.2.2 u.1 u.2.1) tt) (rA (wX q ad κ τ) sz)) (4 * g) (44 * g) (rA (wX q ad κ τ) sz) := by
  have hi0 : vp_in xa 4 := hs.1
  refine r_start (cc := cX4_perform) (maxL := 2) (ret := (some .int)) (by decide) rfl (Nat.le_of_ble_eq_true rfl) ?_
  intro p e s m below meth c ls hC hr hlk hnm hsz hw hl
  have hx := hC.1
  have hb := hC.2.1
  have hl : lv_has ls 2 [(0, .ref (ad 3)), (1, .ref (ad ρ))] := hl
  refine lv_aload_n hx hb dX4_perform_0 rfl (lv_at hl 1 rfl) ?_
  refine r_get hC hw rk5 in_X4_perform_5 ρ hst.1 hst.2 0 (by decide) lk_X4_perform_95 (v := .int 2) rfl dX4_perform_1 ?_
  refine lv_iconst (v := 1) hx hb dX4_perform_4 (by decide) ?_
  refine lv_icmp_lt (tgt := 26) hx hb dX4_perform_5 (by decide) (fun c_ => absurd c_ (by decide)) (fun _ => ?_)
  refine lv_aload_n hx hb dX4_perform_8 rfl (lv_at hl 1 rfl) ?_
  refine r_get hC hw rk5 in_X4_perform_5 ρ hst.1 hst.2 0 (by decide) lk_X4_perform_95 (v := .int 2) rfl dX4_perform_9 ?_
  refine lv_bipush (v := 26) hx hb dX4_perform_12 (by decide) ?_
  refine lv_icmp_gt (tgt := 26) hx hb dX4_perform_14 (by decide) (fun c_ => absurd c_ (by decide)) (fun _ => ?_)
  refine lv_aload_n hx hb dX4_perform_17 rfl (lv_at hl 0 rfl) ?_
  refine r_get hC hw rk4 in_X4_perform_4 3 (wXl 3 (by decide)) wXc3 2 (by decide) lk_X4_perform_24 (v := .ref (ad 4)) rfl dX4_perform_18 ?_
  refine lv_aload_n hx hb dX4_perform_21 rfl (lv_at hl 1 rfl) ?_
  refine r_ki hw (r_runV (rest := []) hC hw 4 (c_X2_reckon_2 l _ ρ xa xb xc hd th hst hs (nn_FB hB 2 _ _ _ (by decide) (by decide))) rk2 (wXl 4 (by decide)) wXc4 1 gX4_perform_X2_reckon rfl rfl rfl (by decide +kernel) ⟨Nat.le_of_ble_eq_true rfl, Nat.le_of_ble_eq_true rfl⟩ rfl hl.1 rfl (Nat.le_of_ble_eq_true rfl) dX4_perform_22 ⟨Nat.le_of_ble_eq_true rfl, Nat.le_of_ble_eq_true rfl⟩) (fun r_2 u_3 H locs h_1 hw => ?_)
  exact r_iret hC hr hlk hw (u_3, τ, ad) rfl ⟨⟨h_1, τ.2.2.1, rfl, fun _ => rfl⟩, fun _ _ => rfl⟩ (show _ ≤ 4 * g by omega) (show _ ≤ 44 * g by omega) dX4_perform_25

set_option maxHeartbeats 4000000 in
set_option maxRecDepth 100000 in
theorem c_X4_perform_3 (l : Launch) {D : va_G} {q : Nat → ClassId} {ad : Nat → Nat} {κ : KS} {τ : TAU} (sz : Nat) (ρ : Nat) (xa xb xc hd th : Int32) (hst : stepAt q ad κ τ ρ 3 xa xb xc) (hs : okStep 3 xa xb xc)(hX : WFx κ) (hm : vp_in (sI κ 2) 61) (hF : WFa κ τ (aN (sI κ 2))) (hρ : 400 ≤ ρ) (hB : FB κ) (hc6 : ∃ n, n ≤ 12 ∧ sI κ 6 = nI n) (hT : ¬ sI κ 7 < 0) (hhd : hd = sI κ 9) (hth : τ.2.2.2 = rT th) (hthv : ¬ th = 0 → aN (th - 1) < aN (sI κ 2)) (g : Nat) (hg : why κ 3 xa xb xc = 0 → mkN κ 3 xb ≤ g) : Met l yX4_perform wsX4_perform (rmc 4 99 (4 * g) (44 * g)) (va_Pc [.ref (ad 3), .ref (ad ρ)] (rPre D q (wX q ad κ τ) sz)) (va_Qi (fun (r : Int32) (u : KS × TAU × (Nat → Nat)) => ((r, u.1) = doR κ hd th 3 xa xb xc ∧ ∃ v, u.2.1 = (τ.1, τ.2.1, v, τ.2.2.2) ∧ (r = 0 → v = nxt κ 3 xa xb τ.2.2.1)) ∧ ∀ i, lvX κ i → u.2.2 i = ad i) (fun (u : KS × TAU × (Nat → Nat)) tt => rPo D (rA (wX q ad κ τ) sz) (wX q u.2.2 u.1 u.2.1) tt) (rA (wX q ad κ τ) sz)) (4 * g) (44 * g) (rA (wX q ad κ τ) sz) := by
  have hi0 : vp_in xa 8 := hs.1
  have hi1 : vp_in xb 8 := hs.2.1
  refine r_start (cc := cX4_perform) (maxL := 2) (ret := (some .int)) (by decide) rfl (Nat.le_of_ble_eq_true rfl) ?_
  intro p e s m below meth c ls hC hr hlk hnm hsz hw hl
  have hx := hC.1
  have hb := hC.2.1
  have hl : lv_has ls 2 [(0, .ref (ad 3)), (1, .ref (ad ρ))] := hl
  refine lv_aload_n hx hb dX4_perform_0 rfl (lv_at hl 1 rfl) ?_
  refine r_get hC hw rk5 in_X4_perform_5 ρ hst.1 hst.2 0 (by decide) lk_X4_perform_95 (v := .int 3) rfl dX4_perform_1 ?_
  refine lv_iconst (v := 1) hx hb dX4_perform_4 (by decide) ?_
  refine lv_icmp_lt (tgt := 26) hx hb dX4_perform_5 (by decide) (fun c_ => absurd c_ (by decide)) (fun _ => ?_)
  refine lv_aload_n hx hb dX4_perform_8 rfl (lv_at hl 1 rfl) ?_
  refine r_get hC hw rk5 in_X4_perform_5 ρ hst.1 hst.2 0 (by decide) lk_X4_perform_95 (v := .int 3) rfl dX4_perform_9 ?_
  refine lv_bipush (v := 26) hx hb dX4_perform_12 (by decide) ?_
  refine lv_icmp_gt (tgt := 26) hx hb dX4_perform_14 (by decide) (fun c_ => absurd c_ (by decide)) (fun _ => ?_)
  refine lv_aload_n hx hb dX4_perform_17 rfl (lv_at hl 0 rfl) ?_
  refine r_get hC hw rk4 in_X4_perform_4 3 (wXl 3 (by decide)) wXc3 2 (by decide) lk_X4_perform_24 (v := .ref (ad 4)) rfl dX4_perform_18 ?_
  refine lv_aload_n hx hb dX4_perform_21 rfl (lv_at hl 1 rfl) ?_
  refine r_ki hw (r_runV (rest := []) hC hw 4 (c_X2_reckon_3 l _ ρ xa xb xc hd th hst hs (nn_FB hB 3 _ _ _ (by decide) (by decide))) rk2 (wXl 4 (by decide)) wXc4 1 gX4_perform_X2_reckon rfl rfl rfl (by decide +kernel) ⟨Nat.le_of_ble_eq_true rfl, Nat.le_of_ble_eq_true rfl⟩ rfl hl.1 rfl (Nat.le_of_ble_eq_true rfl) dX4_perform_22 ⟨Nat.le_of_ble_eq_true rfl, Nat.le_of_ble_eq_true rfl⟩) (fun r_2 u_3 H locs h_1 hw => ?_)
  exact r_iret hC hr hlk hw (u_3, τ, ad) rfl ⟨⟨h_1, τ.2.2.1, rfl, fun _ => rfl⟩, fun _ _ => rfl⟩ (show _ ≤ 4 * g by omega) (show _ ≤ 44 * g by omega) dX4_perform_25

set_option maxHeartbeats 4000000 in
set_option maxRecDepth 100000 in
theorem c_X4_perform_4 (l : Launch) {D : va_G} {q : Nat → ClassId} {ad : Nat → Nat} {κ : KS} {τ : TAU} (sz : Nat) (ρ : Nat) (xa xb xc hd th : Int32) (hst : stepAt q ad κ τ ρ 4 xa xb xc) (hs : okStep 4 xa xb xc)(hX : WFx κ) (hm : vp_in (sI κ 2) 61) (hF : WFa κ τ (aN (sI κ 2))) (hρ : 400 ≤ ρ) (hB : FB κ) (hc6 : ∃ n, n ≤ 12 ∧ sI κ 6 = nI n) (hT : ¬ sI κ 7 < 0) (hhd : hd = sI κ 9) (hth : τ.2.2.2 = rT th) (hthv : ¬ th = 0 → aN (th - 1) < aN (sI κ 2)) (g : Nat) (hg : why κ 4 xa xb xc = 0 → mkN κ 4 xb ≤ g) : Met l yX4_perform wsX4_perform (rmc 4 99 (4 * g) (44 * g)) (va_Pc [.ref (ad 3), .ref (ad ρ)] (rPre D q (wX q ad κ τ) sz)) (va_Qi (fun (r : Int32) (u : KS × TAU × (Nat → Nat)) => ((r, u.1) = doR κ hd th 4 xa xb xc ∧ ∃ v, u.2.1 = (τ.1, τ.2.1, v, τ.2.2.2) ∧ (r = 0 → v = nxt κ 4 xa xb τ.2.2.1)) ∧ ∀ i, lvX κ i → u.2.2 i = ad i) (fun (u : KS × TAU × (Nat → Nat)) tt => rPo D (rA (wX q ad κ τ) sz) (wX q u.2.2 u.1 u.2.1) tt) (rA (wX q ad κ τ) sz)) (4 * g) (44 * g) (rA (wX q ad κ τ) sz) := by
  have hi0 : vp_in xa 8 := hs.1
  have hi1 : vp_in xb 8 := hs.2.1
  have hi2 : vp_in xc 8 := hs.2.2
  refine r_start (cc := cX4_perform) (maxL := 2) (ret := (some .int)) (by decide) rfl (Nat.le_of_ble_eq_true rfl) ?_
  intro p e s m below meth c ls hC hr hlk hnm hsz hw hl
  have hx := hC.1
  have hb := hC.2.1
  have hl : lv_has ls 2 [(0, .ref (ad 3)), (1, .ref (ad ρ))] := hl
  refine lv_aload_n hx hb dX4_perform_0 rfl (lv_at hl 1 rfl) ?_
  refine r_get hC hw rk5 in_X4_perform_5 ρ hst.1 hst.2 0 (by decide) lk_X4_perform_95 (v := .int 4) rfl dX4_perform_1 ?_
  refine lv_iconst (v := 1) hx hb dX4_perform_4 (by decide) ?_
  refine lv_icmp_lt (tgt := 26) hx hb dX4_perform_5 (by decide) (fun c_ => absurd c_ (by decide)) (fun _ => ?_)
  refine lv_aload_n hx hb dX4_perform_8 rfl (lv_at hl 1 rfl) ?_
  refine r_get hC hw rk5 in_X4_perform_5 ρ hst.1 hst.2 0 (by decide) lk_X4_perform_95 (v := .int 4) rfl dX4_perform_9 ?_
  refine lv_bipush (v := 26) hx hb dX4_perform_12 (by decide) ?_
  refine lv_icmp_gt (tgt := 26) hx hb dX4_perform_14 (by decide) (fun c_ => absurd c_ (by decide)) (fun _ => ?_)
  refine lv_aload_n hx hb dX4_perform_17 rfl (lv_at hl 0 rfl) ?_
  refine r_get hC hw rk4 in_X4_perform_4 3 (wXl 3 (by decide)) wXc3 2 (by decide) lk_X4_perform_24 (v := .ref (ad 4)) rfl dX4_perform_18 ?_
  refine lv_aload_n hx hb dX4_perform_21 rfl (lv_at hl 1 rfl) ?_
  refine r_ki hw (r_runV (rest := []) hC hw 4 (c_X2_reckon_4 l _ ρ xa xb xc hd th hst hs (nn_FB hB 4 _ _ _ (by decide) (by decide))) rk2 (wXl 4 (by decide)) wXc4 1 gX4_perform_X2_reckon rfl rfl rfl (by decide +kernel) ⟨Nat.le_of_ble_eq_true rfl, Nat.le_of_ble_eq_true rfl⟩ rfl hl.1 rfl (Nat.le_of_ble_eq_true rfl) dX4_perform_22 ⟨Nat.le_of_ble_eq_true rfl, Nat.le_of_ble_eq_true rfl⟩) (fun r_2 u_3 H locs h_1 hw => ?_)
  exact r_iret hC hr hlk hw (u_3, τ, ad) rfl ⟨⟨h_1, τ.2.2.1, rfl, fun _ => rfl⟩, fun _ _ => rfl⟩ (show _ ≤ 4 * g by omega) (show _ ≤ 44 * g by omega) dX4_perform_25

set_option maxHeartbeats 4000000 in
set_option maxRecDepth 100000 in
theorem c_X4_perform_5 (l : Launch) {D : va_G} {q : Nat → ClassId} {ad : Nat → Nat} {κ : KS} {τ : TAU} (sz : Nat) (ρ : Nat) (xa xb xc hd th : Int32) (hst : stepAt q ad κ τ ρ 5 xa xb xc) (hs : okStep 5 xa xb xc)(hX : WFx κ) (hm : vp_in (sI κ 2) 61) (hF : WFa κ τ (aN (sI κ 2))) (hρ : 400 ≤ ρ) (hB : FB κ) (hc6 : ∃ n, n ≤ 12 ∧ sI κ 6 = nI n) (hT : ¬ sI κ 7 < 0) (hhd : hd = sI κ 9) (hth : τ.2.2.2 = rT th) (hthv : ¬ th = 0 → aN (th - 1) < aN (sI κ 2)) (g : Nat) (hg : why κ 5 xa xb xc = 0 → mkN κ 5 xb ≤ g) : Met l yX4_perform wsX4_perform (rmc 4 99 (4 * g) (44 * g)) (va_Pc [.ref (ad 3), .ref (ad ρ)] (rPre D q (wX q ad κ τ) sz)) (va_Qi (fun (r : Int32) (u : KS × TAU × (Nat → Nat)) => ((r, u.1) = doR κ hd th 5 xa xb xc ∧ ∃ v, u.2.1 = (τ.1, τ.2.1, v, τ.2.2.2) ∧ (r = 0 → v = nxt κ 5 xa xb τ.2.2.1)) ∧ ∀ i, lvX κ i → u.2.2 i = ad i) (fun (u : KS × TAU × (Nat → Nat)) tt => rPo D (rA (wX q ad κ τ) sz) (wX q u.2.2 u.1 u.2.1) tt) (rA (wX q ad κ τ) sz)) (4 * g) (44 * g) (rA (wX q ad κ τ) sz) := by
  have hi0 : vp_in xa 8 := hs.1
  have hi1 : vp_in xb 8 := hs.2.1
  have hi2 : vp_in xc 8 := hs.2.2
  refine r_start (cc := cX4_perform) (maxL := 2) (ret := (some .int)) (by decide) rfl (Nat.le_of_ble_eq_true rfl) ?_
  intro p e s m below meth c ls hC hr hlk hnm hsz hw hl
  have hx := hC.1
  have hb := hC.2.1
  have hl : lv_has ls 2 [(0, .ref (ad 3)), (1, .ref (ad ρ))] := hl
  refine lv_aload_n hx hb dX4_perform_0 rfl (lv_at hl 1 rfl) ?_
  refine r_get hC hw rk5 in_X4_perform_5 ρ hst.1 hst.2 0 (by decide) lk_X4_perform_95 (v := .int 5) rfl dX4_perform_1 ?_
  refine lv_iconst (v := 1) hx hb dX4_perform_4 (by decide) ?_
  refine lv_icmp_lt (tgt := 26) hx hb dX4_perform_5 (by decide) (fun c_ => absurd c_ (by decide)) (fun _ => ?_)
  refine lv_aload_n hx hb dX4_perform_8 rfl (lv_at hl 1 rfl) ?_
  refine r_get hC hw rk5 in_X4_perform_5 ρ hst.1 hst.2 0 (by decide) lk_X4_perform_95 (v := .int 5) rfl dX4_perform_9 ?_
  refine lv_bipush (v := 26) hx hb dX4_perform_12 (by decide) ?_
  refine lv_icmp_gt (tgt := 26) hx hb dX4_perform_14 (by decide) (fun c_ => absurd c_ (by decide)) (fun _ => ?_)
  refine lv_aload_n hx hb dX4_perform_17 rfl (lv_at hl 0 rfl) ?_
  refine r_get hC hw rk4 in_X4_perform_4 3 (wXl 3 (by decide)) wXc3 2 (by decide) lk_X4_perform_24 (v := .ref (ad 4)) rfl dX4_perform_18 ?_
  refine lv_aload_n hx hb dX4_perform_21 rfl (lv_at hl 1 rfl) ?_
  refine r_ki hw (r_runV (rest := []) hC hw 4 (c_X2_reckon_5 l _ ρ xa xb xc hd th hst hs (nn_FB hB 5 _ _ _ (by decide) (by decide))) rk2 (wXl 4 (by decide)) wXc4 1 gX4_perform_X2_reckon rfl rfl rfl (by decide +kernel) ⟨Nat.le_of_ble_eq_true rfl, Nat.le_of_ble_eq_true rfl⟩ rfl hl.1 rfl (Nat.le_of_ble_eq_true rfl) dX4_perform_22 ⟨Nat.le_of_ble_eq_true rfl, Nat.le_of_ble_eq_true rfl⟩) (fun r_2 u_3 H locs h_1 hw => ?_)
  exact r_iret hC hr hlk hw (u_3, τ, ad) rfl ⟨⟨h_1, τ.2.2.1, rfl, fun _ => rfl⟩, fun _ _ => rfl⟩ (show _ ≤ 4 * g by omega) (show _ ≤ 44 * g by omega) dX4_perform_25

set_option maxHeartbeats 4000000 in
set_option maxRecDepth 100000 in
theorem c_X4_perform_6 (l : Launch) {D : va_G} {q : Nat → ClassId} {ad : Nat → Nat} {κ : KS} {τ : TAU} (sz : Nat) (ρ : Nat) (xa xb xc hd th : Int32) (hst : stepAt q ad κ τ ρ 6 xa xb xc) (hs : okStep 6 xa xb xc)(hX : WFx κ) (hm : vp_in (sI κ 2) 61) (hF : WFa κ τ (aN (sI κ 2))) (hρ : 400 ≤ ρ) (hB : FB κ) (hc6 : ∃ n, n ≤ 12 ∧ sI κ 6 = nI n) (hT : ¬ sI κ 7 < 0) (hhd : hd = sI κ 9) (hth : τ.2.2.2 = rT th) (hthv : ¬ th = 0 → aN (th - 1) < aN (sI κ 2)) (g : Nat) (hg : why κ 6 xa xb xc = 0 → mkN κ 6 xb ≤ g) : Met l yX4_perform wsX4_perform (rmc 4 99 (4 * g) (44 * g)) (va_Pc [.ref (ad 3), .ref (ad ρ)] (rPre D q (wX q ad κ τ) sz)) (va_Qi (fun (r : Int32) (u : KS × TAU × (Nat → Nat)) => ((r, u.1) = doR κ hd th 6 xa xb xc ∧ ∃ v, u.2.1 = (τ.1, τ.2.1, v, τ.2.2.2) ∧ (r = 0 → v = nxt κ 6 xa xb τ.2.2.1)) ∧ ∀ i, lvX κ i → u.2.2 i = ad i) (fun (u : KS × TAU × (Nat → Nat)) tt => rPo D (rA (wX q ad κ τ) sz) (wX q u.2.2 u.1 u.2.1) tt) (rA (wX q ad κ τ) sz)) (4 * g) (44 * g) (rA (wX q ad κ τ) sz) := by
  have hi0 : vp_in xa 8 := hs.1
  have hi1 : vp_in xb 8 := hs.2.1
  have hi2 : vp_in xc 8 := hs.2.2
  refine r_start (cc := cX4_perform) (maxL := 2) (ret := (some .int)) (by decide) rfl (Nat.le_of_ble_eq_true rfl) ?_
  intro p e s m below meth c ls hC hr hlk hnm hsz hw hl
  have hx := hC.1
  have hb := hC.2.1
  have hl : lv_has ls 2 [(0, .ref (ad 3)), (1, .ref (ad ρ))] := hl
  refine lv_aload_n hx hb dX4_perform_0 rfl (lv_at hl 1 rfl) ?_
  refine r_get hC hw rk5 in_X4_perform_5 ρ hst.1 hst.2 0 (by decide) lk_X4_perform_95 (v := .int 6) rfl dX4_perform_1 ?_
  refine lv_iconst (v := 1) hx hb dX4_perform_4 (by decide) ?_
  refine lv_icmp_lt (tgt := 26) hx hb dX4_perform_5 (by decide) (fun c_ => absurd c_ (by decide)) (fun _ => ?_)
  refine lv_aload_n hx hb dX4_perform_8 rfl (lv_at hl 1 rfl) ?_
  refine r_get hC hw rk5 in_X4_perform_5 ρ hst.1 hst.2 0 (by decide) lk_X4_perform_95 (v := .int 6) rfl dX4_perform_9 ?_
  refine lv_bipush (v := 26) hx hb dX4_perform_12 (by decide) ?_
  refine lv_icmp_gt (tgt := 26) hx hb dX4_perform_14 (by decide) (fun c_ => absurd c_ (by decide)) (fun _ => ?_)
  refine lv_aload_n hx hb dX4_perform_17 rfl (lv_at hl 0 rfl) ?_
  refine r_get hC hw rk4 in_X4_perform_4 3 (wXl 3 (by decide)) wXc3 2 (by decide) lk_X4_perform_24 (v := .ref (ad 4)) rfl dX4_perform_18 ?_
  refine lv_aload_n hx hb dX4_perform_21 rfl (lv_at hl 1 rfl) ?_
  refine r_ki hw (r_runV (rest := []) hC hw 4 (c_X2_reckon_6 l _ ρ xa xb xc hd th hst hs (nn_FB hB 6 _ _ _ (by decide) (by decide))) rk2 (wXl 4 (by decide)) wXc4 1 gX4_perform_X2_reckon rfl rfl rfl (by decide +kernel) ⟨Nat.le_of_ble_eq_true rfl, Nat.le_of_ble_eq_true rfl⟩ rfl hl.1 rfl (Nat.le_of_ble_eq_true rfl) dX4_perform_22 ⟨Nat.le_of_ble_eq_true rfl, Nat.le_of_ble_eq_true rfl⟩) (fun r_2 u_3 H locs h_1 hw => ?_)
  exact r_iret hC hr hlk hw (u_3, τ, ad) rfl ⟨⟨h_1, τ.2.2.1, rfl, fun _ => rfl⟩, fun _ _ => rfl⟩ (show _ ≤ 4 * g by omega) (show _ ≤ 44 * g by omega) dX4_perform_25

set_option maxHeartbeats 4000000 in
set_option maxRecDepth 100000 in
theorem c_X4_perform_7 (l : Launch) {D : va_G} {q : Nat → ClassId} {ad : Nat → Nat} {κ : KS} {τ : TAU} (sz : Nat) (ρ : Nat) (xa xb xc hd th : Int32) (hst : stepAt q ad κ τ ρ 7 xa xb xc) (hs : okStep 7 xa xb xc)(hX : WFx κ) (hm : vp_in (sI κ 2) 61) (hF : WFa κ τ (aN (sI κ 2))) (hρ : 400 ≤ ρ) (hB : FB κ) (hc6 : ∃ n, n ≤ 12 ∧ sI κ 6 = nI n) (hT : ¬ sI κ 7 < 0) (hhd : hd = sI κ 9) (hth : τ.2.2.2 = rT th) (hthv : ¬ th = 0 → aN (th - 1) < aN (sI κ 2)) (g : Nat) (hg : why κ 7 xa xb xc = 0 → mkN κ 7 xb ≤ g) : Met l yX4_perform wsX4_perform (rmc 4 99 (4 * g) (44 * g)) (va_Pc [.ref (ad 3), .ref (ad ρ)] (rPre D q (wX q ad κ τ) sz)) (va_Qi (fun (r : Int32) (u : KS × TAU × (Nat → Nat)) => ((r, u.1) = doR κ hd th 7 xa xb xc ∧ ∃ v, u.2.1 = (τ.1, τ.2.1, v, τ.2.2.2) ∧ (r = 0 → v = nxt κ 7 xa xb τ.2.2.1)) ∧ ∀ i, lvX κ i → u.2.2 i = ad i) (fun (u : KS × TAU × (Nat → Nat)) tt => rPo D (rA (wX q ad κ τ) sz) (wX q u.2.2 u.1 u.2.1) tt) (rA (wX q ad κ τ) sz)) (4 * g) (44 * g) (rA (wX q ad κ τ) sz) := by
  have hi0 : vp_in xa 8 := hs.1
  have hi1 : vp_in xb 8 := hs.2.1
  have hi2 : vp_in xc 8 := hs.2.2
  refine r_start (cc := cX4_perform) (maxL := 2) (ret := (some .int)) (by decide) rfl (Nat.le_of_ble_eq_true rfl) ?_
  intro p e s m below meth c ls hC hr hlk hnm hsz hw hl
  have hx := hC.1
  have hb := hC.2.1
  have hl : lv_has ls 2 [(0, .ref (ad 3)), (1, .ref (ad ρ))] := hl
  refine lv_aload_n hx hb dX4_perform_0 rfl (lv_at hl 1 rfl) ?_
  refine r_get hC hw rk5 in_X4_perform_5 ρ hst.1 hst.2 0 (by decide) lk_X4_perform_95 (v := .int 7) rfl dX4_perform_1 ?_
  refine lv_iconst (v := 1) hx hb dX4_perform_4 (by decide) ?_
  refine lv_icmp_lt (tgt := 26) hx hb dX4_perform_5 (by decide) (fun c_ => absurd c_ (by decide)) (fun _ => ?_)
  refine lv_aload_n hx hb dX4_perform_8 rfl (lv_at hl 1 rfl) ?_
  refine r_get hC hw rk5 in_X4_perform_5 ρ hst.1 hst.2 0 (by decide) lk_X4_perform_95 (v := .int 7) rfl dX4_perform_9 ?_
  refine lv_bipush (v := 26) hx hb dX4_perform_12 (by decide) ?_
  refine lv_icmp_gt (tgt := 26) hx hb dX4_perform_14 (by decide) (fun c_ => absurd c_ (by decide)) (fun _ => ?_)
  refine lv_aload_n hx hb dX4_perform_17 rfl (lv_at hl 0 rfl) ?_
  refine r_get hC hw rk4 in_X4_perform_4 3 (wXl 3 (by decide)) wXc3 2 (by decide) lk_X4_perform_24 (v := .ref (ad 4)) rfl dX4_perform_18 ?_
  refine lv_aload_n hx hb dX4_perform_21 rfl (lv_at hl 1 rfl) ?_
  refine r_ki hw (r_runV (rest := []) hC hw 4 (c_X2_reckon_7 l _ ρ xa xb xc hd th hst hs (nn_FB hB 7 _ _ _ (by decide) (by decide))) rk2 (wXl 4 (by decide)) wXc4 1 gX4_perform_X2_reckon rfl rfl rfl (by decide +kernel) ⟨Nat.le_of_ble_eq_true rfl, Nat.le_of_ble_eq_true rfl⟩ rfl hl.1 rfl (Nat.le_of_ble_eq_true rfl) dX4_perform_22 ⟨Nat.le_of_ble_eq_true rfl, Nat.le_of_ble_eq_true rfl⟩) (fun r_2 u_3 H locs h_1 hw => ?_)
  exact r_iret hC hr hlk hw (u_3, τ, ad) rfl ⟨⟨h_1, τ.2.2.1, rfl, fun _ => rfl⟩, fun _ _ => rfl⟩ (show _ ≤ 4 * g by omega) (show _ ≤ 44 * g by omega) dX4_perform_25

set_option maxHeartbeats 4000000 in
set_option maxRecDepth 100000 in
theorem c_X4_perform_8 (l : Launch) {D : va_G} {q : Nat → ClassId} {ad : Nat → Nat} {κ : KS} {τ : TAU} (sz : Nat) (ρ : Nat) (xa xb xc hd th : Int32) (hst : stepAt q ad κ τ ρ 8 xa xb xc) (hs : okStep 8 xa xb xc)(hX : WFx κ) (hm : vp_in (sI κ 2) 61) (hF : WFa κ τ (aN (sI κ 2))) (hρ : 400 ≤ ρ) (hB : FB κ) (hc6 : ∃ n, n ≤ 12 ∧ sI κ 6 = nI n) (hT : ¬ sI κ 7 < 0) (hhd : hd = sI κ 9) (hth : τ.2.2.2 = rT th) (hthv : ¬ th = 0 → aN (th - 1) < aN (sI κ 2)) (g : Nat) (hg : why κ 8 xa xb xc = 0 → mkN κ 8 xb ≤ g) : Met l yX4_perform wsX4_perform (rmc 4 99 (4 * g) (44 * g)) (va_Pc [.ref (ad 3), .ref (ad ρ)] (rPre D q (wX q ad κ τ) sz)) (va_Qi (fun (r : Int32) (u : KS × TAU × (Nat → Nat)) => ((r, u.1) = doR κ hd th 8 xa xb xc ∧ ∃ v, u.2.1 = (τ.1, τ.2.1, v, τ.2.2.2) ∧ (r = 0 → v = nxt κ 8 xa xb τ.2.2.1)) ∧ ∀ i, lvX κ i → u.2.2 i = ad i) (fun (u : KS × TAU × (Nat → Nat)) tt => rPo D (rA (wX q ad κ τ) sz) (wX q u.2.2 u.1 u.2.1) tt) (rA (wX q ad κ τ) sz)) (4 * g) (44 * g) (rA (wX q ad κ τ) sz) := by
  have hi0 : vp_in xa 8 := hs.1
  have hi1 : vp_in xb 8 := hs.2.1
  have hi2 : vp_in xc 8 := hs.2.2
  refine r_start (cc := cX4_perform) (maxL := 2) (ret := (some .int)) (by decide) rfl (Nat.le_of_ble_eq_true rfl) ?_
  intro p e s m below meth c ls hC hr hlk hnm hsz hw hl
  have hx := hC.1
  have hb := hC.2.1
  have hl : lv_has ls 2 [(0, .ref (ad 3)), (1, .ref (ad ρ))] := hl
  refine lv_aload_n hx hb dX4_perform_0 rfl (lv_at hl 1 rfl) ?_
  refine r_get hC hw rk5 in_X4_perform_5 ρ hst.1 hst.2 0 (by decide) lk_X4_perform_95 (v := .int 8) rfl dX4_perform_1 ?_
  refine lv_iconst (v := 1) hx hb dX4_perform_4 (by decide) ?_
  refine lv_icmp_lt (tgt := 26) hx hb dX4_perform_5 (by decide) (fun c_ => absurd c_ (by decide)) (fun _ => ?_)
  refine lv_aload_n hx hb dX4_perform_8 rfl (lv_at hl 1 rfl) ?_
  refine r_get hC hw rk5 in_X4_perform_5 ρ hst.1 hst.2 0 (by decide) lk_X4_perform_95 (v := .int 8) rfl dX4_perform_9 ?_
  refine lv_bipush (v := 26) hx hb dX4_perform_12 (by decide) ?_
  refine lv_icmp_gt (tgt := 26) hx hb dX4_perform_14 (by decide) (fun c_ => absurd c_ (by decide)) (fun _ => ?_)
  refine lv_aload_n hx hb dX4_perform_17 rfl (lv_at hl 0 rfl) ?_
  refine r_get hC hw rk4 in_X4_perform_4 3 (wXl 3 (by decide)) wXc3 2 (by decide) lk_X4_perform_24 (v := .ref (ad 4)) rfl dX4_perform_18 ?_
  refine lv_aload_n hx hb dX4_perform_21 rfl (lv_at hl 1 rfl) ?_
  refine r_ki hw (r_runV (rest := []) hC hw 4 (c_X2_reckon_8 l _ ρ xa xb xc hd th hst hs (nn_FB hB 8 _ _ _ (by decide) (by decide))) rk2 (wXl 4 (by decide)) wXc4 1 gX4_perform_X2_reckon rfl rfl rfl (by decide +kernel) ⟨Nat.le_of_ble_eq_true rfl, Nat.le_of_ble_eq_true rfl⟩ rfl hl.1 rfl (Nat.le_of_ble_eq_true rfl) dX4_perform_22 ⟨Nat.le_of_ble_eq_true rfl, Nat.le_of_ble_eq_true rfl⟩) (fun r_2 u_3 H locs h_1 hw => ?_)
  exact r_iret hC hr hlk hw (u_3, τ, ad) rfl ⟨⟨h_1, τ.2.2.1, rfl, fun _ => rfl⟩, fun _ _ => rfl⟩ (show _ ≤ 4 * g by omega) (show _ ≤ 44 * g by omega) dX4_perform_25

set_option maxHeartbeats 4000000 in
set_option maxRecDepth 100000 in
theorem c_X4_perform_9 (l : Launch) {D : va_G} {q : Nat → ClassId} {ad : Nat → Nat} {κ : KS} {τ : TAU} (sz : Nat) (ρ : Nat) (xa xb xc hd th : Int32) (hst : stepAt q ad κ τ ρ 9 xa xb xc) (hs : okStep 9 xa xb xc)(hX : WFx κ) (hm : vp_in (sI κ 2) 61) (hF : WFa κ τ (aN (sI κ 2))) (hρ : 400 ≤ ρ) (hB : FB κ) (hc6 : ∃ n, n ≤ 12 ∧ sI κ 6 = nI n) (hT : ¬ sI κ 7 < 0) (hhd : hd = sI κ 9) (hth : τ.2.2.2 = rT th) (hthv : ¬ th = 0 → aN (th - 1) < aN (sI κ 2)) (g : Nat) (hg : why κ 9 xa xb xc = 0 → mkN κ 9 xb ≤ g) : Met l yX4_perform wsX4_perform (rmc 4 99 (4 * g) (44 * g)) (va_Pc [.ref (ad 3), .ref (ad ρ)] (rPre D q (wX q ad κ τ) sz)) (va_Qi (fun (r : Int32) (u : KS × TAU × (Nat → Nat)) => ((r, u.1) = doR κ hd th 9 xa xb xc ∧ ∃ v, u.2.1 = (τ.1, τ.2.1, v, τ.2.2.2) ∧ (r = 0 → v = nxt κ 9 xa xb τ.2.2.1)) ∧ ∀ i, lvX κ i → u.2.2 i = ad i) (fun (u : KS × TAU × (Nat → Nat)) tt => rPo D (rA (wX q ad κ τ) sz) (wX q u.2.2 u.1 u.2.1) tt) (rA (wX q ad κ τ) sz)) (4 * g) (44 * g) (rA (wX q ad κ τ) sz) := by
  have hi0 : vp_in xa 4 := hs.1
  have hi1 : vp_in xb 4 := hs.2.1
  have hi2 : vp_in xc 4 := hs.2.2
  refine r_start (cc := cX4_perform) (maxL := 2) (ret := (some .int)) (by decide) rfl (Nat.le_of_ble_eq_true rfl) ?_
  intro p e s m below meth c ls hC hr hlk hnm hsz hw hl
  have hx := hC.1
  have hb := hC.2.1
  have hl : lv_has ls 2 [(0, .ref (ad 3)), (1, .ref (ad ρ))] := hl
  refine lv_aload_n hx hb dX4_perform_0 rfl (lv_at hl 1 rfl) ?_
  refine r_get hC hw rk5 in_X4_perform_5 ρ hst.1 hst.2 0 (by decide) lk_X4_perform_95 (v := .int 9) rfl dX4_perform_1 ?_
  refine lv_iconst (v := 1) hx hb dX4_perform_4 (by decide) ?_
  refine lv_icmp_lt (tgt := 26) hx hb dX4_perform_5 (by decide) (fun c_ => absurd c_ (by decide)) (fun _ => ?_)
  refine lv_aload_n hx hb dX4_perform_8 rfl (lv_at hl 1 rfl) ?_
  refine r_get hC hw rk5 in_X4_perform_5 ρ hst.1 hst.2 0 (by decide) lk_X4_perform_95 (v := .int 9) rfl dX4_perform_9 ?_
  refine lv_bipush (v := 26) hx hb dX4_perform_12 (by decide) ?_
  refine lv_icmp_gt (tgt := 26) hx hb dX4_perform_14 (by decide) (fun c_ => absurd c_ (by decide)) (fun _ => ?_)
  refine lv_aload_n hx hb dX4_perform_17 rfl (lv_at hl 0 rfl) ?_
  refine r_get hC hw rk4 in_X4_perform_4 3 (wXl 3 (by decide)) wXc3 2 (by decide) lk_X4_perform_24 (v := .ref (ad 4)) rfl dX4_perform_18 ?_
  refine lv_aload_n hx hb dX4_perform_21 rfl (lv_at hl 1 rfl) ?_
  refine r_ki hw (r_runV (rest := []) hC hw 4 (c_X2_reckon_9 l _ ρ xa xb xc hd th hst hs (nn_FB hB 9 _ _ _ (by decide) (by decide))) rk2 (wXl 4 (by decide)) wXc4 1 gX4_perform_X2_reckon rfl rfl rfl (by decide +kernel) ⟨Nat.le_of_ble_eq_true rfl, Nat.le_of_ble_eq_true rfl⟩ rfl hl.1 rfl (Nat.le_of_ble_eq_true rfl) dX4_perform_22 ⟨Nat.le_of_ble_eq_true rfl, Nat.le_of_ble_eq_true rfl⟩) (fun r_2 u_3 H locs h_1 hw => ?_)
  exact r_iret hC hr hlk hw (u_3, τ, ad) rfl ⟨⟨h_1, τ.2.2.1, rfl, fun _ => rfl⟩, fun _ _ => rfl⟩ (show _ ≤ 4 * g by omega) (show _ ≤ 44 * g by omega) dX4_perform_25

set_option maxHeartbeats 4000000 in
set_option maxRecDepth 100000 in
theorem c_X4_perform_10 (l : Launch) {D : va_G} {q : Nat → ClassId} {ad : Nat → Nat} {κ : KS} {τ : TAU} (sz : Nat) (ρ : Nat) (xa xb xc hd th : Int32) (hst : stepAt q ad κ τ ρ 10 xa xb xc) (hs : okStep 10 xa xb xc)(hX : WFx κ) (hm : vp_in (sI κ 2) 61) (hF : WFa κ τ (aN (sI κ 2))) (hρ : 400 ≤ ρ) (hB : FB κ) (hc6 : ∃ n, n ≤ 12 ∧ sI κ 6 = nI n) (hT : ¬ sI κ 7 < 0) (hhd : hd = sI κ 9) (hth : τ.2.2.2 = rT th) (hthv : ¬ th = 0 → aN (th - 1) < aN (sI κ 2)) (g : Nat) (hg : why κ 10 xa xb xc = 0 → mkN κ 10 xb ≤ g) : Met l yX4_perform wsX4_perform (rmc 4 99 (4 * g) (44 * g)) (va_Pc [.ref (ad 3), .ref (ad ρ)] (rPre D q (wX q ad κ τ) sz)) (va_Qi (fun (r : Int32) (u : KS × TAU × (Nat → Nat)) => ((r, u.1) = doR κ hd th 10 xa xb xc ∧ ∃ v, u.2.1 = (τ.1, τ.2.1, v, τ.2.2.2) ∧ (r = 0 → v = nxt κ 10 xa xb τ.2.2.1)) ∧ ∀ i, lvX κ i → u.2.2 i = ad i) (fun (u : KS × TAU × (Nat → Nat)) tt => rPo D (rA (wX q ad κ τ) sz) (wX q u.2.2 u.1 u.2.1) tt) (rA (wX q ad κ τ) sz)) (4 * g) (44 * g) (rA (wX q ad κ τ) sz) := by
  have hi0 : vp_in xa 4 := hs.1
  have hi1 : vp_in xb 4 := hs.2.1
  have hi2 : vp_in xc 4 := hs.2.2
  refine r_start (cc := cX4_perform) (maxL := 2) (ret := (some .int)) (by decide) rfl (Nat.le_of_ble_eq_true rfl) ?_
  intro p e s m below meth c ls hC hr hlk hnm hsz hw hl
  have hx := hC.1
  have hb := hC.2.1
  have hl : lv_has ls 2 [(0, .ref (ad 3)), (1, .ref (ad ρ))] := hl
  refine lv_aload_n hx hb dX4_perform_0 rfl (lv_at hl 1 rfl) ?_
  refine r_get hC hw rk5 in_X4_perform_5 ρ hst.1 hst.2 0 (by decide) lk_X4_perform_95 (v := .int 10) rfl dX4_perform_1 ?_
  refine lv_iconst (v := 1) hx hb dX4_perform_4 (by decide) ?_
  refine lv_icmp_lt (tgt := 26) hx hb dX4_perform_5 (by decide) (fun c_ => absurd c_ (by decide)) (fun _ => ?_)
  refine lv_aload_n hx hb dX4_perform_8 rfl (lv_at hl 1 rfl) ?_
  refine r_get hC hw rk5 in_X4_perform_5 ρ hst.1 hst.2 0 (by decide) lk_X4_perform_95 (v := .int 10) rfl dX4_perform_9 ?_
  refine lv_bipush (v := 26) hx hb dX4_perform_12 (by decide) ?_
  refine lv_icmp_gt (tgt := 26) hx hb dX4_perform_14 (by decide) (fun c_ => absurd c_ (by decide)) (fun _ => ?_)
  refine lv_aload_n hx hb dX4_perform_17 rfl (lv_at hl 0 rfl) ?_
  refine r_get hC hw rk4 in_X4_perform_4 3 (wXl 3 (by decide)) wXc3 2 (by decide) lk_X4_perform_24 (v := .ref (ad 4)) rfl dX4_perform_18 ?_
  refine lv_aload_n hx hb dX4_perform_21 rfl (lv_at hl 1 rfl) ?_
  refine r_ki hw (r_runV (rest := []) hC hw 4 (c_X2_reckon_10 l _ ρ xa xb xc hd th hst hs (nn_FB hB 10 _ _ _ (by decide) (by decide))) rk2 (wXl 4 (by decide)) wXc4 1 gX4_perform_X2_reckon rfl rfl rfl (by decide +kernel) ⟨Nat.le_of_ble_eq_true rfl, Nat.le_of_ble_eq_true rfl⟩ rfl hl.1 rfl (Nat.le_of_ble_eq_true rfl) dX4_perform_22 ⟨Nat.le_of_ble_eq_true rfl, Nat.le_of_ble_eq_true rfl⟩) (fun r_2 u_3 H locs h_1 hw => ?_)
  exact r_iret hC hr hlk hw (u_3, τ, ad) rfl ⟨⟨h_1, τ.2.2.1, rfl, fun _ => rfl⟩, fun _ _ => rfl⟩ (show _ ≤ 4 * g by omega) (show _ ≤ 44 * g by omega) dX4_perform_25

set_option maxHeartbeats 4000000 in
set_option maxRecDepth 100000 in
theorem c_X4_perform_11 (l : Launch) {D : va_G} {q : Nat → ClassId} {ad : Nat → Nat} {κ : KS} {τ : TAU} (sz : Nat) (ρ : Nat) (xa xb xc hd th : Int32) (hst : stepAt q ad κ τ ρ 11 xa xb xc) (hs : okStep 11 xa xb xc)(hX : WFx κ) (hm : vp_in (sI κ 2) 61) (hF : WFa κ τ (aN (sI κ 2))) (hρ : 400 ≤ ρ) (hB : FB κ) (hc6 : ∃ n, n ≤ 12 ∧ sI κ 6 = nI n) (hT : ¬ sI κ 7 < 0) (hhd : hd = sI κ 9) (hth : τ.2.2.2 = rT th) (hthv : ¬ th = 0 → aN (th - 1) < aN (sI κ 2)) (g : Nat) (hg : why κ 11 xa xb xc = 0 → mkN κ 11 xb ≤ g) : Met l yX4_perform wsX4_perform (rmc 4 99 (4 * g) (44 * g)) (va_Pc [.ref (ad 3), .ref (ad ρ)] (rPre D q (wX q ad κ τ) sz)) (va_Qi (fun (r : Int32) (u : KS × TAU × (Nat → Nat)) => ((r, u.1) = doR κ hd th 11 xa xb xc ∧ ∃ v, u.2.1 = (τ.1, τ.2.1, v, τ.2.2.2) ∧ (r = 0 → v = nxt κ 11 xa xb τ.2.2.1)) ∧ ∀ i, lvX κ i → u.2.2 i = ad i) (fun (u : KS × TAU × (Nat → Nat)) tt => rPo D (rA (wX q ad κ τ) sz) (wX q u.2.2 u.1 u.2.1) tt) (rA (wX q ad κ τ) sz)) (4 * g) (44 * g) (rA (wX q ad κ τ) sz) := by
  have hi0 : vp_in xa 4 := hs.1
  have hi1 : vp_in xb 4 := hs.2.1
  have hi2 : vp_in xc 4 := hs.2.2
  refine r_start (cc := cX4_perform) (maxL := 2) (ret := (some .int)) (by decide) rfl (Nat.le_of_ble_eq_true rfl) ?_
  intro p e s m below meth c ls hC hr hlk hnm hsz hw hl
  have hx := hC.1
  have hb := hC.2.1
  have hl : lv_has ls 2 [(0, .ref (ad 3)), (1, .ref (ad ρ))] := hl
  refine lv_aload_n hx hb dX4_perform_0 rfl (lv_at hl 1 rfl) ?_
  refine r_get hC hw rk5 in_X4_perform_5 ρ hst.1 hst.2 0 (by decide) lk_X4_perform_95 (v := .int 11) rfl dX4_perform_1 ?_
  refine lv_iconst (v := 1) hx hb dX4_perform_4 (by decide) ?_
  refine lv_icmp_lt (tgt := 26) hx hb dX4_perform_5 (by decide) (fun c_ => absurd c_ (by decide)) (fun _ => ?_)
  refine lv_aload_n hx hb dX4_perform_8 rfl (lv_at hl 1 rfl) ?_
  refine r_get hC hw rk5 in_X4_perform_5 ρ hst.1 hst.2 0 (by decide) lk_X4_perform_95 (v := .int 11) rfl dX4_perform_9 ?_
  refine lv_bipush (v := 26) hx hb dX4_perform_12 (by decide) ?_
  refine lv_icmp_gt (tgt := 26) hx hb dX4_perform_14 (by decide) (fun c_ => absurd c_ (by decide)) (fun _ => ?_)
  refine lv_aload_n hx hb dX4_perform_17 rfl (lv_at hl 0 rfl) ?_
  refine r_get hC hw rk4 in_X4_perform_4 3 (wXl 3 (by decide)) wXc3 2 (by decide) lk_X4_perform_24 (v := .ref (ad 4)) rfl dX4_perform_18 ?_
  refine lv_aload_n hx hb dX4_perform_21 rfl (lv_at hl 1 rfl) ?_
  refine r_ki hw (r_runV (rest := []) hC hw 4 (c_X2_reckon_11 l _ ρ xa xb xc hd th hst hs (nn_FB hB 11 _ _ _ (by decide) (by decide))) rk2 (wXl 4 (by decide)) wXc4 1 gX4_perform_X2_reckon rfl rfl rfl (by decide +kernel) ⟨Nat.le_of_ble_eq_true rfl, Nat.le_of_ble_eq_true rfl⟩ rfl hl.1 rfl (Nat.le_of_ble_eq_true rfl) dX4_perform_22 ⟨Nat.le_of_ble_eq_true rfl, Nat.le_of_ble_eq_true rfl⟩) (fun r_2 u_3 H locs h_1 hw => ?_)
  exact r_iret hC hr hlk hw (u_3, τ, ad) rfl ⟨⟨h_1, τ.2.2.1, rfl, fun _ => rfl⟩, fun _ _ => rfl⟩ (show _ ≤ 4 * g by omega) (show _ ≤ 44 * g by omega) dX4_perform_25

set_option maxHeartbeats 4000000 in
set_option maxRecDepth 100000 in
theorem c_X4_perform_12 (l : Launch) {D : va_G} {q : Nat → ClassId} {ad : Nat → Nat} {κ : KS} {τ : TAU} (sz : Nat) (ρ : Nat) (xa xb xc hd th : Int32) (hst : stepAt q ad κ τ ρ 12 xa xb xc) (hs : okStep 12 xa xb xc)(hX : WFx κ) (hm : vp_in (sI κ 2) 61) (hF : WFa κ τ (aN (sI κ 2))) (hρ : 400 ≤ ρ) (hB : FB κ) (hc6 : ∃ n, n ≤ 12 ∧ sI κ 6 = nI n) (hT : ¬ sI κ 7 < 0) (hhd : hd = sI κ 9) (hth : τ.2.2.2 = rT th) (hthv : ¬ th = 0 → aN (th - 1) < aN (sI κ 2)) (g : Nat) (hg : why κ 12 xa xb xc = 0 → mkN κ 12 xb ≤ g) : Met l yX4_perform wsX4_perform (rmc 4 99 (4 * g) (44 * g)) (va_Pc [.ref (ad 3), .ref (ad ρ)] (rPre D q (wX q ad κ τ) sz)) (va_Qi (fun (r : Int32) (u : KS × TAU × (Nat → Nat)) => ((r, u.1) = doR κ hd th 12 xa xb xc ∧ ∃ v, u.2.1 = (τ.1, τ.2.1, v, τ.2.2.2) ∧ (r = 0 → v = nxt κ 12 xa xb τ.2.2.1)) ∧ ∀ i, lvX κ i → u.2.2 i = ad i) (fun (u : KS × TAU × (Nat → Nat)) tt => rPo D (rA (wX q ad κ τ) sz) (wX q u.2.2 u.1 u.2.1) tt) (rA (wX q ad κ τ) sz)) (4 * g) (44 * g) (rA (wX q ad κ τ) sz) := by
  have hi0 : vp_in xa 4 := hs.1
  have hi1 : vp_in xb 4 := hs.2.1
  have hi2 : vp_in xc 4 := hs.2.2
  refine r_start (cc := cX4_perform) (maxL := 2) (ret := (some .int)) (by decide) rfl (Nat.le_of_ble_eq_true rfl) ?_
  intro p e s m below meth c ls hC hr hlk hnm hsz hw hl
  have hx := hC.1
  have hb := hC.2.1
  have hl : lv_has ls 2 [(0, .ref (ad 3)), (1, .ref (ad ρ))] := hl
  refine lv_aload_n hx hb dX4_perform_0 rfl (lv_at hl 1 rfl) ?_
  refine r_get hC hw rk5 in_X4_perform_5 ρ hst.1 hst.2 0 (by decide) lk_X4_perform_95 (v := .int 12) rfl dX4_perform_1 ?_
  refine lv_iconst (v := 1) hx hb dX4_perform_4 (by decide) ?_
  refine lv_icmp_lt (tgt := 26) hx hb dX4_perform_5 (by decide) (fun c_ => absurd c_ (by decide)) (fun _ => ?_)
  refine lv_aload_n hx hb dX4_perform_8 rfl (lv_at hl 1 rfl) ?_
  refine r_get hC hw rk5 in_X4_perform_5 ρ hst.1 hst.2 0 (by decide) lk_X4_perform_95 (v := .int 12) rfl dX4_perform_9 ?_
  refine lv_bipush (v := 26) hx hb dX4_perform_12 (by decide) ?_
  refine lv_icmp_gt (tgt := 26) hx hb dX4_perform_14 (by decide) (fun c_ => absurd c_ (by decide)) (fun _ => ?_)
  refine lv_aload_n hx hb dX4_perform_17 rfl (lv_at hl 0 rfl) ?_
  refine r_get hC hw rk4 in_X4_perform_4 3 (wXl 3 (by decide)) wXc3 2 (by decide) lk_X4_perform_24 (v := .ref (ad 4)) rfl dX4_perform_18 ?_
  refine lv_aload_n hx hb dX4_perform_21 rfl (lv_at hl 1 rfl) ?_
  refine r_ki hw (r_runV (rest := []) hC hw 4 (c_X2_reckon_12 l _ ρ xa xb xc hd th hst hs (nn_FB hB 12 _ _ _ (by decide) (by decide))) rk2 (wXl 4 (by decide)) wXc4 1 gX4_perform_X2_reckon rfl rfl rfl (by decide +kernel) ⟨Nat.le_of_ble_eq_true rfl, Nat.le_of_ble_eq_true rfl⟩ rfl hl.1 rfl (Nat.le_of_ble_eq_true rfl) dX4_perform_22 ⟨Nat.le_of_ble_eq_true rfl, Nat.le_of_ble_eq_true rfl⟩) (fun r_2 u_3 H locs h_1 hw => ?_)
  exact r_iret hC hr hlk hw (u_3, τ, ad) rfl ⟨⟨h_1, τ.2.2.1, rfl, fun _ => rfl⟩, fun _ _ => rfl⟩ (show _ ≤ 4 * g by omega) (show _ ≤ 44 * g by omega) dX4_perform_25

set_option maxHeartbeats 4000000 in
set_option maxRecDepth 100000 in
theorem c_X4_perform_13 (l : Launch) {D : va_G} {q : Nat → ClassId} {ad : Nat → Nat} {κ : KS} {τ : TAU} (sz : Nat) (ρ : Nat) (xa xb xc hd th : Int32) (hst : stepAt q ad κ τ ρ 13 xa xb xc) (hs : okStep 13 xa xb xc)(hX : WFx κ) (hm : vp_in (sI κ 2) 61) (hF : WFa κ τ (aN (sI κ 2))) (hρ : 400 ≤ ρ) (hB : FB κ) (hc6 : ∃ n, n ≤ 12 ∧ sI κ 6 = nI n) (hT : ¬ sI κ 7 < 0) (hhd : hd = sI κ 9) (hth : τ.2.2.2 = rT th) (hthv : ¬ th = 0 → aN (th - 1) < aN (sI κ 2)) (g : Nat) (hg : why κ 13 xa xb xc = 0 → mkN κ 13 xb ≤ g) : Met l yX4_perform wsX4_perform (rmc 4 99 (4 * g) (44 * g)) (va_Pc [.ref (ad 3), .ref (ad ρ)] (rPre D q (wX q ad κ τ) sz)) (va_Qi (fun (r : Int32) (u : KS × TAU × (Nat → Nat)) => ((r, u.1) = doR κ hd th 13 xa xb xc ∧ ∃ v, u.2.1 = (τ.1, τ.2.1, v, τ.2.2.2) ∧ (r = 0 → v = nxt κ 13 xa xb τ.2.2.1)) ∧ ∀ i, lvX κ i → u.2.2 i = ad i) (fun (u : KS × TAU × (Nat → Nat)) tt => rPo D (rA (wX q ad κ τ) sz) (wX q u.2.2 u.1 u.2.1) tt) (rA (wX q ad κ τ) sz)) (4 * g) (44 * g) (rA (wX q ad κ τ) sz) := by
  have hi0 : vp_in xa 4 := hs.1
  have hi1 : vp_in xb 8 := hs.2.1
  refine r_start (cc := cX4_perform) (maxL := 2) (ret := (some .int)) (by decide) rfl (Nat.le_of_ble_eq_true rfl) ?_
  intro p e s m below meth c ls hC hr hlk hnm hsz hw hl
  have hx := hC.1
  have hb := hC.2.1
  have hl : lv_has ls 2 [(0, .ref (ad 3)), (1, .ref (ad ρ))] := hl
  refine lv_aload_n hx hb dX4_perform_0 rfl (lv_at hl 1 rfl) ?_
  refine r_get hC hw rk5 in_X4_perform_5 ρ hst.1 hst.2 0 (by decide) lk_X4_perform_95 (v := .int 13) rfl dX4_perform_1 ?_
  refine lv_iconst (v := 1) hx hb dX4_perform_4 (by decide) ?_
  refine lv_icmp_lt (tgt := 26) hx hb dX4_perform_5 (by decide) (fun c_ => absurd c_ (by decide)) (fun _ => ?_)
  refine lv_aload_n hx hb dX4_perform_8 rfl (lv_at hl 1 rfl) ?_
  refine r_get hC hw rk5 in_X4_perform_5 ρ hst.1 hst.2 0 (by decide) lk_X4_perform_95 (v := .int 13) rfl dX4_perform_9 ?_
  refine lv_bipush (v := 26) hx hb dX4_perform_12 (by decide) ?_
  refine lv_icmp_gt (tgt := 26) hx hb dX4_perform_14 (by decide) (fun c_ => absurd c_ (by decide)) (fun _ => ?_)
  refine lv_aload_n hx hb dX4_perform_17 rfl (lv_at hl 0 rfl) ?_
  refine r_get hC hw rk4 in_X4_perform_4 3 (wXl 3 (by decide)) wXc3 2 (by decide) lk_X4_perform_24 (v := .ref (ad 4)) rfl dX4_perform_18 ?_
  refine lv_aload_n hx hb dX4_perform_21 rfl (lv_at hl 1 rfl) ?_
  refine r_ki hw (r_runV (rest := []) hC hw 4 (c_X2_reckon_13 l _ ρ xa xb xc hd th hst hs (nn_FB hB 13 _ _ _ (by decide) (by decide))) rk2 (wXl 4 (by decide)) wXc4 1 gX4_perform_X2_reckon rfl rfl rfl (by decide +kernel) ⟨Nat.le_of_ble_eq_true rfl, Nat.le_of_ble_eq_true rfl⟩ rfl hl.1 rfl (Nat.le_of_ble_eq_true rfl) dX4_perform_22 ⟨Nat.le_of_ble_eq_true rfl, Nat.le_of_ble_eq_true rfl⟩) (fun r_2 u_3 H locs h_1 hw => ?_)
  exact r_iret hC hr hlk hw (u_3, τ, ad) rfl ⟨⟨h_1, τ.2.2.1, rfl, fun _ => rfl⟩, fun _ _ => rfl⟩ (show _ ≤ 4 * g by omega) (show _ ≤ 44 * g by omega) dX4_perform_25

set_option maxHeartbeats 4000000 in
set_option maxRecDepth 100000 in
theorem c_X4_perform_14 (l : Launch) {D : va_G} {q : Nat → ClassId} {ad : Nat → Nat} {κ : KS} {τ : TAU} (sz : Nat) (ρ : Nat) (xa xb xc hd th : Int32) (hst : stepAt q ad κ τ ρ 14 xa xb xc) (hs : okStep 14 xa xb xc)(hX : WFx κ) (hm : vp_in (sI κ 2) 61) (hF : WFa κ τ (aN (sI κ 2))) (hρ : 400 ≤ ρ) (hB : FB κ) (hc6 : ∃ n, n ≤ 12 ∧ sI κ 6 = nI n) (hT : ¬ sI κ 7 < 0) (hhd : hd = sI κ 9) (hth : τ.2.2.2 = rT th) (hthv : ¬ th = 0 → aN (th - 1) < aN (sI κ 2)) (g : Nat) (hg : why κ 14 xa xb xc = 0 → mkN κ 14 xb ≤ g) : Met l yX4_perform wsX4_perform (rmc 4 99 (4 * g) (44 * g)) (va_Pc [.ref (ad 3), .ref (ad ρ)] (rPre D q (wX q ad κ τ) sz)) (va_Qi (fun (r : Int32) (u : KS × TAU × (Nat → Nat)) => ((r, u.1) = doR κ hd th 14 xa xb xc ∧ ∃ v, u.2.1 = (τ.1, τ.2.1, v, τ.2.2.2) ∧ (r = 0 → v = nxt κ 14 xa xb τ.2.2.1)) ∧ ∀ i, lvX κ i → u.2.2 i = ad i) (fun (u : KS × TAU × (Nat → Nat)) tt => rPo D (rA (wX q ad κ τ) sz) (wX q u.2.2 u.1 u.2.1) tt) (rA (wX q ad κ τ) sz)) (4 * g) (44 * g) (rA (wX q ad κ τ) sz) := by
  have hi0 : vp_in xa 8 := hs.1
  have hi1 : vp_in xb 4 := hs.2.1
  refine r_start (cc := cX4_perform) (maxL := 2) (ret := (some .int)) (by decide) rfl (Nat.le_of_ble_eq_true rfl) ?_
  intro p e s m below meth c ls hC hr hlk hnm hsz hw hl
  have hx := hC.1
  have hb := hC.2.1
  have hl : lv_has ls 2 [(0, .ref (ad 3)), (1, .ref (ad ρ))] := hl
  refine lv_aload_n hx hb dX4_perform_0 rfl (lv_at hl 1 rfl) ?_
  refine r_get hC hw rk5 in_X4_perform_5 ρ hst.1 hst.2 0 (by decide) lk_X4_perform_95 (v := .int 14) rfl dX4_perform_1 ?_
  refine lv_iconst (v := 1) hx hb dX4_perform_4 (by decide) ?_
  refine lv_icmp_lt (tgt := 26) hx hb dX4_perform_5 (by decide) (fun c_ => absurd c_ (by decide)) (fun _ => ?_)
  refine lv_aload_n hx hb dX4_perform_8 rfl (lv_at hl 1 rfl) ?_
  refine r_get hC hw rk5 in_X4_perform_5 ρ hst.1 hst.2 0 (by decide) lk_X4_perform_95 (v := .int 14) rfl dX4_perform_9 ?_
  refine lv_bipush (v := 26) hx hb dX4_perform_12 (by decide) ?_
  refine lv_icmp_gt (tgt := 26) hx hb dX4_perform_14 (by decide) (fun c_ => absurd c_ (by decide)) (fun _ => ?_)
  refine lv_aload_n hx hb dX4_perform_17 rfl (lv_at hl 0 rfl) ?_
  refine r_get hC hw rk4 in_X4_perform_4 3 (wXl 3 (by decide)) wXc3 2 (by decide) lk_X4_perform_24 (v := .ref (ad 4)) rfl dX4_perform_18 ?_
  refine lv_aload_n hx hb dX4_perform_21 rfl (lv_at hl 1 rfl) ?_
  refine r_ki hw (r_runV (rest := []) hC hw 4 (c_X2_reckon_14 l _ ρ xa xb xc hd th hst hs (nn_FB hB 14 _ _ _ (by decide) (by decide))) rk2 (wXl 4 (by decide)) wXc4 1 gX4_perform_X2_reckon rfl rfl rfl (by decide +kernel) ⟨Nat.le_of_ble_eq_true rfl, Nat.le_of_ble_eq_true rfl⟩ rfl hl.1 rfl (Nat.le_of_ble_eq_true rfl) dX4_perform_22 ⟨Nat.le_of_ble_eq_true rfl, Nat.le_of_ble_eq_true rfl⟩) (fun r_2 u_3 H locs h_1 hw => ?_)
  exact r_iret hC hr hlk hw (u_3, τ, ad) rfl ⟨⟨h_1, τ.2.2.1, rfl, fun _ => rfl⟩, fun _ _ => rfl⟩ (show _ ≤ 4 * g by omega) (show _ ≤ 44 * g by omega) dX4_perform_25

set_option maxHeartbeats 4000000 in
set_option maxRecDepth 100000 in
theorem c_X4_perform_15 (l : Launch) {D : va_G} {q : Nat → ClassId} {ad : Nat → Nat} {κ : KS} {τ : TAU} (sz : Nat) (ρ : Nat) (xa xb xc hd th : Int32) (hst : stepAt q ad κ τ ρ 15 xa xb xc) (hs : okStep 15 xa xb xc)(hX : WFx κ) (hm : vp_in (sI κ 2) 61) (hF : WFa κ τ (aN (sI κ 2))) (hρ : 400 ≤ ρ) (hB : FB κ) (hc6 : ∃ n, n ≤ 12 ∧ sI κ 6 = nI n) (hT : ¬ sI κ 7 < 0) (hhd : hd = sI κ 9) (hth : τ.2.2.2 = rT th) (hthv : ¬ th = 0 → aN (th - 1) < aN (sI κ 2)) (g : Nat) (hg : why κ 15 xa xb xc = 0 → mkN κ 15 xb ≤ g) : Met l yX4_perform wsX4_perform (rmc 4 99 (4 * g) (44 * g)) (va_Pc [.ref (ad 3), .ref (ad ρ)] (rPre D q (wX q ad κ τ) sz)) (va_Qi (fun (r : Int32) (u : KS × TAU × (Nat → Nat)) => ((r, u.1) = doR κ hd th 15 xa xb xc ∧ ∃ v, u.2.1 = (τ.1, τ.2.1, v, τ.2.2.2) ∧ (r = 0 → v = nxt κ 15 xa xb τ.2.2.1)) ∧ ∀ i, lvX κ i → u.2.2 i = ad i) (fun (u : KS × TAU × (Nat → Nat)) tt => rPo D (rA (wX q ad κ τ) sz) (wX q u.2.2 u.1 u.2.1) tt) (rA (wX q ad κ τ) sz)) (4 * g) (44 * g) (rA (wX q ad κ τ) sz) := by
  have hi0 : vp_in xa 4 := hs.1
  have hi1 : vp_in xb 4 := hs.2.1
  refine r_start (cc := cX4_perform) (maxL := 2) (ret := (some .int)) (by decide) rfl (Nat.le_of_ble_eq_true rfl) ?_
  intro p e s m below meth c ls hC hr hlk hnm hsz hw hl
  have hx := hC.1
  have hb := hC.2.1
  have hl : lv_has ls 2 [(0, .ref (ad 3)), (1, .ref (ad ρ))] := hl
  refine lv_aload_n hx hb dX4_perform_0 rfl (lv_at hl 1 rfl) ?_
  refine r_get hC hw rk5 in_X4_perform_5 ρ hst.1 hst.2 0 (by decide) lk_X4_perform_95 (v := .int 15) rfl dX4_perform_1 ?_
  refine lv_iconst (v := 1) hx hb dX4_perform_4 (by decide) ?_
  refine lv_icmp_lt (tgt := 26) hx hb dX4_perform_5 (by decide) (fun c_ => absurd c_ (by decide)) (fun _ => ?_)
  refine lv_aload_n hx hb dX4_perform_8 rfl (lv_at hl 1 rfl) ?_
  refine r_get hC hw rk5 in_X4_perform_5 ρ hst.1 hst.2 0 (by decide) lk_X4_perform_95 (v := .int 15) rfl dX4_perform_9 ?_
  refine lv_bipush (v := 26) hx hb dX4_perform_12 (by decide) ?_
  refine lv_icmp_gt (tgt := 26) hx hb dX4_perform_14 (by decide) (fun c_ => absurd c_ (by decide)) (fun _ => ?_)
  refine lv_aload_n hx hb dX4_perform_17 rfl (lv_at hl 0 rfl) ?_
  refine r_get hC hw rk4 in_X4_perform_4 3 (wXl 3 (by decide)) wXc3 2 (by decide) lk_X4_perform_24 (v := .ref (ad 4)) rfl dX4_perform_18 ?_
  refine lv_aload_n hx hb dX4_perform_21 rfl (lv_at hl 1 rfl) ?_
  refine r_ki hw (r_runV (rest := []) hC hw 4 (c_X2_reckon_15 l _ ρ xa xb xc hd th hst hs (nn_FB hB 15 _ _ _ (by decide) (by decide))) rk2 (wXl 4 (by decide)) wXc4 1 gX4_perform_X2_reckon rfl rfl rfl (by decide +kernel) ⟨Nat.le_of_ble_eq_true rfl, Nat.le_of_ble_eq_true rfl⟩ rfl hl.1 rfl (Nat.le_of_ble_eq_true rfl) dX4_perform_22 ⟨Nat.le_of_ble_eq_true rfl, Nat.le_of_ble_eq_true rfl⟩) (fun r_2 u_3 H locs h_1 hw => ?_)
  exact r_iret hC hr hlk hw (u_3, τ, ad) rfl ⟨⟨h_1, τ.2.2.1, rfl, fun _ => rfl⟩, fun _ _ => rfl⟩ (show _ ≤ 4 * g by omega) (show _ ≤ 44 * g by omega) dX4_perform_25

set_option maxHeartbeats 4000000 in
set_option maxRecDepth 100000 in
theorem c_X4_perform_16 (l : Launch) {D : va_G} {q : Nat → ClassId} {ad : Nat → Nat} {κ : KS} {τ : TAU} (sz : Nat) (ρ : Nat) (xa xb xc hd th : Int32) (hst : stepAt q ad κ τ ρ 16 xa xb xc) (hs : okStep 16 xa xb xc)(hX : WFx κ) (hm : vp_in (sI κ 2) 61) (hF : WFa κ τ (aN (sI κ 2))) (hρ : 400 ≤ ρ) (hB : FB κ) (hc6 : ∃ n, n ≤ 12 ∧ sI κ 6 = nI n) (hT : ¬ sI κ 7 < 0) (hhd : hd = sI κ 9) (hth : τ.2.2.2 = rT th) (hthv : ¬ th = 0 → aN (th - 1) < aN (sI κ 2)) (g : Nat) (hg : why κ 16 xa xb xc = 0 → mkN κ 16 xb ≤ g) : Met l yX4_perform wsX4_perform (rmc 4 99 (4 * g) (44 * g)) (va_Pc [.ref (ad 3), .ref (ad ρ)] (rPre D q (wX q ad κ τ) sz)) (va_Qi (fun (r : Int32) (u : KS × TAU × (Nat → Nat)) => ((r, u.1) = doR κ hd th 16 xa xb xc ∧ ∃ v, u.2.1 = (τ.1, τ.2.1, v, τ.2.2.2) ∧ (r = 0 → v = nxt κ 16 xa xb τ.2.2.1)) ∧ ∀ i, lvX κ i → u.2.2 i = ad i) (fun (u : KS × TAU × (Nat → Nat)) tt => rPo D (rA (wX q ad κ τ) sz) (wX q u.2.2 u.1 u.2.1) tt) (rA (wX q ad κ τ) sz)) (4 * g) (44 * g) (rA (wX q ad κ τ) sz) := by
  have hi0 : vp_in xa 4 := hs.1
  have hi1 : vp_in xb 4 := hs.2.1
  refine r_start (cc := cX4_perform) (maxL := 2) (ret := (some .int)) (by decide) rfl (Nat.le_of_ble_eq_true rfl) ?_
  intro p e s m below meth c ls hC hr hlk hnm hsz hw hl
  have hx := hC.1
  have hb := hC.2.1
  have hl : lv_has ls 2 [(0, .ref (ad 3)), (1, .ref (ad ρ))] := hl
  refine lv_aload_n hx hb dX4_perform_0 rfl (lv_at hl 1 rfl) ?_
  refine r_get hC hw rk5 in_X4_perform_5 ρ hst.1 hst.2 0 (by decide) lk_X4_perform_95 (v := .int 16) rfl dX4_perform_1 ?_
  refine lv_iconst (v := 1) hx hb dX4_perform_4 (by decide) ?_
  refine lv_icmp_lt (tgt := 26) hx hb dX4_perform_5 (by decide) (fun c_ => absurd c_ (by decide)) (fun _ => ?_)
  refine lv_aload_n hx hb dX4_perform_8 rfl (lv_at hl 1 rfl) ?_
  refine r_get hC hw rk5 in_X4_perform_5 ρ hst.1 hst.2 0 (by decide) lk_X4_perform_95 (v := .int 16) rfl dX4_perform_9 ?_
  refine lv_bipush (v := 26) hx hb dX4_perform_12 (by decide) ?_
  refine lv_icmp_gt (tgt := 26) hx hb dX4_perform_14 (by decide) (fun c_ => absurd c_ (by decide)) (fun _ => ?_)
  refine lv_aload_n hx hb dX4_perform_17 rfl (lv_at hl 0 rfl) ?_
  refine r_get hC hw rk4 in_X4_perform_4 3 (wXl 3 (by decide)) wXc3 2 (by decide) lk_X4_perform_24 (v := .ref (ad 4)) rfl dX4_perform_18 ?_
  refine lv_aload_n hx hb dX4_perform_21 rfl (lv_at hl 1 rfl) ?_
  refine r_ki hw (r_runV (rest := []) hC hw 4 (c_X2_reckon_16 l _ ρ xa xb xc hd th hst hs (nn_FB hB 16 _ _ _ (by decide) (by decide))) rk2 (wXl 4 (by decide)) wXc4 1 gX4_perform_X2_reckon rfl rfl rfl (by decide +kernel) ⟨Nat.le_of_ble_eq_true rfl, Nat.le_of_ble_eq_true rfl⟩ rfl hl.1 rfl (Nat.le_of_ble_eq_true rfl) dX4_perform_22 ⟨Nat.le_of_ble_eq_true rfl, Nat.le_of_ble_eq_true rfl⟩) (fun r_2 u_3 H locs h_1 hw => ?_)
  exact r_iret hC hr hlk hw (u_3, τ, ad) rfl ⟨⟨h_1, τ.2.2.1, rfl, fun _ => rfl⟩, fun _ _ => rfl⟩ (show _ ≤ 4 * g by omega) (show _ ≤ 44 * g by omega) dX4_perform_25

set_option maxHeartbeats 4000000 in
set_option maxRecDepth 100000 in
theorem c_X4_perform_17 (l : Launch) {D : va_G} {q : Nat → ClassId} {ad : Nat → Nat} {κ : KS} {τ : TAU} (sz : Nat) (ρ : Nat) (xa xb xc hd th : Int32) (hst : stepAt q ad κ τ ρ 17 xa xb xc) (hs : okStep 17 xa xb xc)(hX : WFx κ) (hm : vp_in (sI κ 2) 61) (hF : WFa κ τ (aN (sI κ 2))) (hρ : 400 ≤ ρ) (hB : FB κ) (hc6 : ∃ n, n ≤ 12 ∧ sI κ 6 = nI n) (hT : ¬ sI κ 7 < 0) (hhd : hd = sI κ 9) (hth : τ.2.2.2 = rT th) (hthv : ¬ th = 0 → aN (th - 1) < aN (sI κ 2)) (g : Nat) (hg : why κ 17 xa xb xc = 0 → mkN κ 17 xb ≤ g) : Met l yX4_perform wsX4_perform (rmc 4 99 (4 * g) (44 * g)) (va_Pc [.ref (ad 3), .ref (ad ρ)] (rPre D q (wX q ad κ τ) sz)) (va_Qi (fun (r : Int32) (u : KS × TAU × (Nat → Nat)) => ((r, u.1) = doR κ hd th 17 xa xb xc ∧ ∃ v, u.2.1 = (τ.1, τ.2.1, v, τ.2.2.2) ∧ (r = 0 → v = nxt κ 17 xa xb τ.2.2.1)) ∧ ∀ i, lvX κ i → u.2.2 i = ad i) (fun (u : KS × TAU × (Nat → Nat)) tt => rPo D (rA (wX q ad κ τ) sz) (wX q u.2.2 u.1 u.2.1) tt) (rA (wX q ad κ τ) sz)) (4 * g) (44 * g) (rA (wX q ad κ τ) sz) := by
  have hi0 : vp_in xa 4 := hs.1
  have hi1 : vp_in xb 4 := hs.2.1
  refine r_start (cc := cX4_perform) (maxL := 2) (ret := (some .int)) (by decide) rfl (Nat.le_of_ble_eq_true rfl) ?_
  intro p e s m below meth c ls hC hr hlk hnm hsz hw hl
  have hx := hC.1
  have hb := hC.2.1
  have hl : lv_has ls 2 [(0, .ref (ad 3)), (1, .ref (ad ρ))] := hl
  refine lv_aload_n hx hb dX4_perform_0 rfl (lv_at hl 1 rfl) ?_
  refine r_get hC hw rk5 in_X4_perform_5 ρ hst.1 hst.2 0 (by decide) lk_X4_perform_95 (v := .int 17) rfl dX4_perform_1 ?_
  refine lv_iconst (v := 1) hx hb dX4_perform_4 (by decide) ?_
  refine lv_icmp_lt (tgt := 26) hx hb dX4_perform_5 (by decide) (fun c_ => absurd c_ (by decide)) (fun _ => ?_)
  refine lv_aload_n hx hb dX4_perform_8 rfl (lv_at hl 1 rfl) ?_
  refine r_get hC hw rk5 in_X4_perform_5 ρ hst.1 hst.2 0 (by decide) lk_X4_perform_95 (v := .int 17) rfl dX4_perform_9 ?_
  refine lv_bipush (v := 26) hx hb dX4_perform_12 (by decide) ?_
  refine lv_icmp_gt (tgt := 26) hx hb dX4_perform_14 (by decide) (fun c_ => absurd c_ (by decide)) (fun _ => ?_)
  refine lv_aload_n hx hb dX4_perform_17 rfl (lv_at hl 0 rfl) ?_
  refine r_get hC hw rk4 in_X4_perform_4 3 (wXl 3 (by decide)) wXc3 2 (by decide) lk_X4_perform_24 (v := .ref (ad 4)) rfl dX4_perform_18 ?_
  refine lv_aload_n hx hb dX4_perform_21 rfl (lv_at hl 1 rfl) ?_
  refine r_ki hw (r_runV (rest := []) hC hw 4 (c_X2_reckon_17 l _ ρ xa xb xc hd th hst hs (nn_FB hB 17 _ _ _ (by decide) (by decide))) rk2 (wXl 4 (by decide)) wXc4 1 gX4_perform_X2_reckon rfl rfl rfl (by decide +kernel) ⟨Nat.le_of_ble_eq_true rfl, Nat.le_of_ble_eq_true rfl⟩ rfl hl.1 rfl (Nat.le_of_ble_eq_true rfl) dX4_perform_22 ⟨Nat.le_of_ble_eq_true rfl, Nat.le_of_ble_eq_true rfl⟩) (fun r_2 u_3 H locs h_1 hw => ?_)
  exact r_iret hC hr hlk hw (u_3, τ, ad) rfl ⟨⟨h_1, τ.2.2.1, rfl, fun _ => rfl⟩, fun _ _ => rfl⟩ (show _ ≤ 4 * g by omega) (show _ ≤ 44 * g by omega) dX4_perform_25

set_option maxHeartbeats 4000000 in
set_option maxRecDepth 100000 in
theorem c_X4_perform_18 (l : Launch) {D : va_G} {q : Nat → ClassId} {ad : Nat → Nat} {κ : KS} {τ : TAU} (sz : Nat) (ρ : Nat) (xa xb xc hd th : Int32) (hst : stepAt q ad κ τ ρ 18 xa xb xc) (hs : okStep 18 xa xb xc)(hX : WFx κ) (hm : vp_in (sI κ 2) 61) (hF : WFa κ τ (aN (sI κ 2))) (hρ : 400 ≤ ρ) (hB : FB κ) (hc6 : ∃ n, n ≤ 12 ∧ sI κ 6 = nI n) (hT : ¬ sI κ 7 < 0) (hhd : hd = sI κ 9) (hth : τ.2.2.2 = rT th) (hthv : ¬ th = 0 → aN (th - 1) < aN (sI κ 2)) (g : Nat) (hg : why κ 18 xa xb xc = 0 → mkN κ 18 xb ≤ g) : Met l yX4_perform wsX4_perform (rmc 4 99 (4 * g) (44 * g)) (va_Pc [.ref (ad 3), .ref (ad ρ)] (rPre D q (wX q ad κ τ) sz)) (va_Qi (fun (r : Int32) (u : KS × TAU × (Nat → Nat)) => ((r, u.1) = doR κ hd th 18 xa xb xc ∧ ∃ v, u.2.1 = (τ.1, τ.2.1, v, τ.2.2.2) ∧ (r = 0 → v = nxt κ 18 xa xb τ.2.2.1)) ∧ ∀ i, lvX κ i → u.2.2 i = ad i) (fun (u : KS × TAU × (Nat → Nat)) tt => rPo D (rA (wX q ad κ τ) sz) (wX q u.2.2 u.1 u.2.1) tt) (rA (wX q ad κ τ) sz)) (4 * g) (44 * g) (rA (wX q ad κ τ) sz) := by
  have hi0 : vp_in xa 8 := hs.1
  have hi1 : vp_in xb 4 := hs.2.1
  refine r_start (cc := cX4_perform) (maxL := 2) (ret := (some .int)) (by decide) rfl (Nat.le_of_ble_eq_true rfl) ?_
  intro p e s m below meth c ls hC hr hlk hnm hsz hw hl
  have hx := hC.1
  have hb := hC.2.1
  have hl : lv_has ls 2 [(0, .ref (ad 3)), (1, .ref (ad ρ))] := hl
  refine lv_aload_n hx hb dX4_perform_0 rfl (lv_at hl 1 rfl) ?_
  refine r_get hC hw rk5 in_X4_perform_5 ρ hst.1 hst.2 0 (by decide) lk_X4_perform_95 (v := .int 18) rfl dX4_perform_1 ?_
  refine lv_iconst (v := 1) hx hb dX4_perform_4 (by decide) ?_
  refine lv_icmp_lt (tgt := 26) hx hb dX4_perform_5 (by decide) (fun c_ => absurd c_ (by decide)) (fun _ => ?_)
  refine lv_aload_n hx hb dX4_perform_8 rfl (lv_at hl 1 rfl) ?_
  refine r_get hC hw rk5 in_X4_perform_5 ρ hst.1 hst.2 0 (by decide) lk_X4_perform_95 (v := .int 18) rfl dX4_perform_9 ?_
  refine lv_bipush (v := 26) hx hb dX4_perform_12 (by decide) ?_
  refine lv_icmp_gt (tgt := 26) hx hb dX4_perform_14 (by decide) (fun c_ => absurd c_ (by decide)) (fun _ => ?_)
  refine lv_aload_n hx hb dX4_perform_17 rfl (lv_at hl 0 rfl) ?_
  refine r_get hC hw rk4 in_X4_perform_4 3 (wXl 3 (by decide)) wXc3 2 (by decide) lk_X4_perform_24 (v := .ref (ad 4)) rfl dX4_perform_18 ?_
  refine lv_aload_n hx hb dX4_perform_21 rfl (lv_at hl 1 rfl) ?_
  refine r_ki hw (r_runV (rest := []) hC hw 4 (c_X2_reckon_18 l _ ρ xa xb xc hd th hst hs (nn_FB hB 18 _ _ _ (by decide) (by decide))) rk2 (wXl 4 (by decide)) wXc4 1 gX4_perform_X2_reckon rfl rfl rfl (by decide +kernel) ⟨Nat.le_of_ble_eq_true rfl, Nat.le_of_ble_eq_true rfl⟩ rfl hl.1 rfl (Nat.le_of_ble_eq_true rfl) dX4_perform_22 ⟨Nat.le_of_ble_eq_true rfl, Nat.le_of_ble_eq_true rfl⟩) (fun r_2 u_3 H locs h_1 hw => ?_)
  exact r_iret hC hr hlk hw (u_3, τ, ad) rfl ⟨⟨h_1, τ.2.2.1, rfl, fun _ => rfl⟩, fun _ _ => rfl⟩ (show _ ≤ 4 * g by omega) (show _ ≤ 44 * g by omega) dX4_perform_25

set_option maxHeartbeats 4000000 in
set_option maxRecDepth 100000 in
theorem c_X4_perform_19 (l : Launch) {D : va_G} {q : Nat → ClassId} {ad : Nat → Nat} {κ : KS} {τ : TAU} (sz : Nat) (ρ : Nat) (xa xb xc hd th : Int32) (hst : stepAt q ad κ τ ρ 19 xa xb xc) (hs : okStep 19 xa xb xc)(hX : WFx κ) (hm : vp_in (sI κ 2) 61) (hF : WFa κ τ (aN (sI κ 2))) (hρ : 400 ≤ ρ) (hB : FB κ) (hc6 : ∃ n, n ≤ 12 ∧ sI κ 6 = nI n) (hT : ¬ sI κ 7 < 0) (hhd : hd = sI κ 9) (hth : τ.2.2.2 = rT th) (hthv : ¬ th = 0 → aN (th - 1) < aN (sI κ 2)) (g : Nat) (hg : why κ 19 xa xb xc = 0 → mkN κ 19 xb ≤ g) : Met l yX4_perform wsX4_perform (rmc 4 99 (4 * g) (44 * g)) (va_Pc [.ref (ad 3), .ref (ad ρ)] (rPre D q (wX q ad κ τ) sz)) (va_Qi (fun (r : Int32) (u : KS × TAU × (Nat → Nat)) => ((r, u.1) = doR κ hd th 19 xa xb xc ∧ ∃ v, u.2.1 = (τ.1, τ.2.1, v, τ.2.2.2) ∧ (r = 0 → v = nxt κ 19 xa xb τ.2.2.1)) ∧ ∀ i, lvX κ i → u.2.2 i = ad i) (fun (u : KS × TAU × (Nat → Nat)) tt => rPo D (rA (wX q ad κ τ) sz) (wX q u.2.2 u.1 u.2.1) tt) (rA (wX q ad κ τ) sz)) (4 * g) (44 * g) (rA (wX q ad κ τ) sz) := by
  have hi0 : vp_in xa 4 := hs.1
  have hi1 : vp_in xb 4 := hs.2.1
  refine r_start (cc := cX4_perform) (maxL := 2) (ret := (some .int)) (by decide) rfl (Nat.le_of_ble_eq_true rfl) ?_
  intro p e s m below meth c ls hC hr hlk hnm hsz hw hl
  have hx := hC.1
  have hb := hC.2.1
  have hl : lv_has ls 2 [(0, .ref (ad 3)), (1, .ref (ad ρ))] := hl
  refine lv_aload_n hx hb dX4_perform_0 rfl (lv_at hl 1 rfl) ?_
  refine r_get hC hw rk5 in_X4_perform_5 ρ hst.1 hst.2 0 (by decide) lk_X4_perform_95 (v := .int 19) rfl dX4_perform_1 ?_
  refine lv_iconst (v := 1) hx hb dX4_perform_4 (by decide) ?_
  refine lv_icmp_lt (tgt := 26) hx hb dX4_perform_5 (by decide) (fun c_ => absurd c_ (by decide)) (fun _ => ?_)
  refine lv_aload_n hx hb dX4_perform_8 rfl (lv_at hl 1 rfl) ?_
  refine r_get hC hw rk5 in_X4_perform_5 ρ hst.1 hst.2 0 (by decide) lk_X4_perform_95 (v := .int 19) rfl dX4_perform_9 ?_
  refine lv_bipush (v := 26) hx hb dX4_perform_12 (by decide) ?_
  refine lv_icmp_gt (tgt := 26) hx hb dX4_perform_14 (by decide) (fun c_ => absurd c_ (by decide)) (fun _ => ?_)
  refine lv_aload_n hx hb dX4_perform_17 rfl (lv_at hl 0 rfl) ?_
  refine r_get hC hw rk4 in_X4_perform_4 3 (wXl 3 (by decide)) wXc3 2 (by decide) lk_X4_perform_24 (v := .ref (ad 4)) rfl dX4_perform_18 ?_
  refine lv_aload_n hx hb dX4_perform_21 rfl (lv_at hl 1 rfl) ?_
  refine r_ki hw (r_runV (rest := []) hC hw 4 (c_X2_reckon_19 l _ ρ xa xb xc hd th hst hs (nn_FB hB 19 _ _ _ (by decide) (by decide))) rk2 (wXl 4 (by decide)) wXc4 1 gX4_perform_X2_reckon rfl rfl rfl (by decide +kernel) ⟨Nat.le_of_ble_eq_true rfl, Nat.le_of_ble_eq_true rfl⟩ rfl hl.1 rfl (Nat.le_of_ble_eq_true rfl) dX4_perform_22 ⟨Nat.le_of_ble_eq_true rfl, Nat.le_of_ble_eq_true rfl⟩) (fun r_2 u_3 H locs h_1 hw => ?_)
  exact r_iret hC hr hlk hw (u_3, τ, ad) rfl ⟨⟨h_1, τ.2.2.1, rfl, fun _ => rfl⟩, fun _ _ => rfl⟩ (show _ ≤ 4 * g by omega) (show _ ≤ 44 * g by omega) dX4_perform_25

set_option maxHeartbeats 4000000 in
set_option maxRecDepth 100000 in
theorem c_X4_perform_20 (l : Launch) {D : va_G} {q : Nat → ClassId} {ad : Nat → Nat} {κ : KS} {τ : TAU} (sz : Nat) (ρ : Nat) (xa xb xc hd th : Int32) (hst : stepAt q ad κ τ ρ 20 xa xb xc) (hs : okStep 20 xa xb xc)(hX : WFx κ) (hm : vp_in (sI κ 2) 61) (hF : WFa κ τ (aN (sI κ 2))) (hρ : 400 ≤ ρ) (hB : FB κ) (hc6 : ∃ n, n ≤ 12 ∧ sI κ 6 = nI n) (hT : ¬ sI κ 7 < 0) (hhd : hd = sI κ 9) (hth : τ.2.2.2 = rT th) (hthv : ¬ th = 0 → aN (th - 1) < aN (sI κ 2)) (g : Nat) (hg : why κ 20 xa xb xc = 0 → mkN κ 20 xb ≤ g) : Met l yX4_perform wsX4_perform (rmc 4 99 (4 * g) (44 * g)) (va_Pc [.ref (ad 3), .ref (ad ρ)] (rPre D q (wX q ad κ τ) sz)) (va_Qi (fun (r : Int32) (u : KS × TAU × (Nat → Nat)) => ((r, u.1) = doR κ hd th 20 xa xb xc ∧ ∃ v, u.2.1 = (τ.1, τ.2.1, v, τ.2.2.2) ∧ (r = 0 → v = nxt κ 20 xa xb τ.2.2.1)) ∧ ∀ i, lvX κ i → u.2.2 i = ad i) (fun (u : KS × TAU × (Nat → Nat)) tt => rPo D (rA (wX q ad κ τ) sz) (wX q u.2.2 u.1 u.2.1) tt) (rA (wX q ad κ τ) sz)) (4 * g) (44 * g) (rA (wX q ad κ τ) sz) := by
  have hi0 : vp_in xa 4 := hs.1
  have hi1 : vp_in xb 4 := hs.2.1
  refine r_start (cc := cX4_perform) (maxL := 2) (ret := (some .int)) (by decide) rfl (Nat.le_of_ble_eq_true rfl) ?_
  intro p e s m below meth c ls hC hr hlk hnm hsz hw hl
  have hx := hC.1
  have hb := hC.2.1
  have hl : lv_has ls 2 [(0, .ref (ad 3)), (1, .ref (ad ρ))] := hl
  refine lv_aload_n hx hb dX4_perform_0 rfl (lv_at hl 1 rfl) ?_
  refine r_get hC hw rk5 in_X4_perform_5 ρ hst.1 hst.2 0 (by decide) lk_X4_perform_95 (v := .int 20) rfl dX4_perform_1 ?_
  refine lv_iconst (v := 1) hx hb dX4_perform_4 (by decide) ?_
  refine lv_icmp_lt (tgt := 26) hx hb dX4_perform_5 (by decide) (fun c_ => absurd c_ (by decide)) (fun _ => ?_)
  refine lv_aload_n hx hb dX4_perform_8 rfl (lv_at hl 1 rfl) ?_
  refine r_get hC hw rk5 in_X4_perform_5 ρ hst.1 hst.2 0 (by decide) lk_X4_perform_95 (v := .int 20) rfl dX4_perform_9 ?_
  refine lv_bipush (v := 26) hx hb dX4_perform_12 (by decide) ?_
  refine lv_icmp_gt (tgt := 26) hx hb dX4_perform_14 (by decide) (fun c_ => absurd c_ (by decide)) (fun _ => ?_)
  refine lv_aload_n hx hb dX4_perform_17 rfl (lv_at hl 0 rfl) ?_
  refine r_get hC hw rk4 in_X4_perform_4 3 (wXl 3 (by decide)) wXc3 2 (by decide) lk_X4_perform_24 (v := .ref (ad 4)) rfl dX4_perform_18 ?_
  refine lv_aload_n hx hb dX4_perform_21 rfl (lv_at hl 1 rfl) ?_
  refine r_ki hw (r_runV (rest := []) hC hw 4 (c_X2_reckon_20 l _ ρ xa xb xc hd th hst hs (nn_FB hB 20 _ _ _ (by decide) (by decide))) rk2 (wXl 4 (by decide)) wXc4 1 gX4_perform_X2_reckon rfl rfl rfl (by decide +kernel) ⟨Nat.le_of_ble_eq_true rfl, Nat.le_of_ble_eq_true rfl⟩ rfl hl.1 rfl (Nat.le_of_ble_eq_true rfl) dX4_perform_22 ⟨Nat.le_of_ble_eq_true rfl, Nat.le_of_ble_eq_true rfl⟩) (fun r_2 u_3 H locs h_1 hw => ?_)
  exact r_iret hC hr hlk hw (u_3, τ, ad) rfl ⟨⟨h_1, τ.2.2.1, rfl, fun _ => rfl⟩, fun _ _ => rfl⟩ (show _ ≤ 4 * g by omega) (show _ ≤ 44 * g by omega) dX4_perform_25

set_option maxHeartbeats 4000000 in
set_option maxRecDepth 100000 in
theorem c_X4_perform_21 (l : Launch) {D : va_G} {q : Nat → ClassId} {ad : Nat → Nat} {κ : KS} {τ : TAU} (sz : Nat) (ρ : Nat) (xa xb xc hd th : Int32) (hst : stepAt q ad κ τ ρ 21 xa xb xc) (hs : okStep 21 xa xb xc)(hX : WFx κ) (hm : vp_in (sI κ 2) 61) (hF : WFa κ τ (aN (sI κ 2))) (hρ : 400 ≤ ρ) (hB : FB κ) (hc6 : ∃ n, n ≤ 12 ∧ sI κ 6 = nI n) (hT : ¬ sI κ 7 < 0) (hhd : hd = sI κ 9) (hth : τ.2.2.2 = rT th) (hthv : ¬ th = 0 → aN (th - 1) < aN (sI κ 2)) (g : Nat) (hg : why κ 21 xa xb xc = 0 → mkN κ 21 xb ≤ g) : Met l yX4_perform wsX4_perform (rmc 4 99 (4 * g) (44 * g)) (va_Pc [.ref (ad 3), .ref (ad ρ)] (rPre D q (wX q ad κ τ) sz)) (va_Qi (fun (r : Int32) (u : KS × TAU × (Nat → Nat)) => ((r, u.1) = doR κ hd th 21 xa xb xc ∧ ∃ v, u.2.1 = (τ.1, τ.2.1, v, τ.2.2.2) ∧ (r = 0 → v = nxt κ 21 xa xb τ.2.2.1)) ∧ ∀ i, lvX κ i → u.2.2 i = ad i) (fun (u : KS × TAU × (Nat → Nat)) tt => rPo D (rA (wX q ad κ τ) sz) (wX q u.2.2 u.1 u.2.1) tt) (rA (wX q ad κ τ) sz)) (4 * g) (44 * g) (rA (wX q ad κ τ) sz) := by
  have hi0 : vp_in xa 4 := hs.1
  have hi1 : vp_in xb 4 := hs.2.1
  refine r_start (cc := cX4_perform) (maxL := 2) (ret := (some .int)) (by decide) rfl (Nat.le_of_ble_eq_true rfl) ?_
  intro p e s m below meth c ls hC hr hlk hnm hsz hw hl
  have hx := hC.1
  have hb := hC.2.1
  have hl : lv_has ls 2 [(0, .ref (ad 3)), (1, .ref (ad ρ))] := hl
  refine lv_aload_n hx hb dX4_perform_0 rfl (lv_at hl 1 rfl) ?_
  refine r_get hC hw rk5 in_X4_perform_5 ρ hst.1 hst.2 0 (by decide) lk_X4_perform_95 (v := .int 21) rfl dX4_perform_1 ?_
  refine lv_iconst (v := 1) hx hb dX4_perform_4 (by decide) ?_
  refine lv_icmp_lt (tgt := 26) hx hb dX4_perform_5 (by decide) (fun c_ => absurd c_ (by decide)) (fun _ => ?_)
  refine lv_aload_n hx hb dX4_perform_8 rfl (lv_at hl 1 rfl) ?_
  refine r_get hC hw rk5 in_X4_perform_5 ρ hst.1 hst.2 0 (by decide) lk_X4_perform_95 (v := .int 21) rfl dX4_perform_9 ?_
  refine lv_bipush (v := 26) hx hb dX4_perform_12 (by decide) ?_
  refine lv_icmp_gt (tgt := 26) hx hb dX4_perform_14 (by decide) (fun c_ => absurd c_ (by decide)) (fun _ => ?_)
  refine lv_aload_n hx hb dX4_perform_17 rfl (lv_at hl 0 rfl) ?_
  refine r_get hC hw rk4 in_X4_perform_4 3 (wXl 3 (by decide)) wXc3 2 (by decide) lk_X4_perform_24 (v := .ref (ad 4)) rfl dX4_perform_18 ?_
  refine lv_aload_n hx hb dX4_perform_21 rfl (lv_at hl 1 rfl) ?_
  refine r_ki hw (r_runV (rest := []) hC hw 4 (c_X2_reckon_21 l _ ρ xa xb xc hd th hst hs (nn_FB hB 21 _ _ _ (by decide) (by decide))) rk2 (wXl 4 (by decide)) wXc4 1 gX4_perform_X2_reckon rfl rfl rfl (by decide +kernel) ⟨Nat.le_of_ble_eq_true rfl, Nat.le_of_ble_eq_true rfl⟩ rfl hl.1 rfl (Nat.le_of_ble_eq_true rfl) dX4_perform_22 ⟨Nat.le_of_ble_eq_true rfl, Nat.le_of_ble_eq_true rfl⟩) (fun r_2 u_3 H locs h_1 hw => ?_)
  exact r_iret hC hr hlk hw (u_3, τ, ad) rfl ⟨⟨h_1, τ.2.2.1, rfl, fun _ => rfl⟩, fun _ _ => rfl⟩ (show _ ≤ 4 * g by omega) (show _ ≤ 44 * g by omega) dX4_perform_25

set_option maxHeartbeats 4000000 in
set_option maxRecDepth 100000 in
theorem c_X4_perform_22 (l : Launch) {D : va_G} {q : Nat → ClassId} {ad : Nat → Nat} {κ : KS} {τ : TAU} (sz : Nat) (ρ : Nat) (xa xb xc hd th : Int32) (hst : stepAt q ad κ τ ρ 22 xa xb xc) (hs : okStep 22 xa xb xc)(hX : WFx κ) (hm : vp_in (sI κ 2) 61) (hF : WFa κ τ (aN (sI κ 2))) (hρ : 400 ≤ ρ) (hB : FB κ) (hc6 : ∃ n, n ≤ 12 ∧ sI κ 6 = nI n) (hT : ¬ sI κ 7 < 0) (hhd : hd = sI κ 9) (hth : τ.2.2.2 = rT th) (hthv : ¬ th = 0 → aN (th - 1) < aN (sI κ 2)) (g : Nat) (hg : why κ 22 xa xb xc = 0 → mkN κ 22 xb ≤ g) : Met l yX4_perform wsX4_perform (rmc 4 99 (4 * g) (44 * g)) (va_Pc [.ref (ad 3), .ref (ad ρ)] (rPre D q (wX q ad κ τ) sz)) (va_Qi (fun (r : Int32) (u : KS × TAU × (Nat → Nat)) => ((r, u.1) = doR κ hd th 22 xa xb xc ∧ ∃ v, u.2.1 = (τ.1, τ.2.1, v, τ.2.2.2) ∧ (r = 0 → v = nxt κ 22 xa xb τ.2.2.1)) ∧ ∀ i, lvX κ i → u.2.2 i = ad i) (fun (u : KS × TAU × (Nat → Nat)) tt => rPo D (rA (wX q ad κ τ) sz) (wX q u.2.2 u.1 u.2.1) tt) (rA (wX q ad κ τ) sz)) (4 * g) (44 * g) (rA (wX q ad κ τ) sz) := by
  have hi0 : vp_in xa 4 := hs.1
  have hi1 : vp_in xb 4 := hs.2.1
  refine r_start (cc := cX4_perform) (maxL := 2) (ret := (some .int)) (by decide) rfl (Nat.le_of_ble_eq_true rfl) ?_
  intro p e s m below meth c ls hC hr hlk hnm hsz hw hl
  have hx := hC.1
  have hb := hC.2.1
  have hl : lv_has ls 2 [(0, .ref (ad 3)), (1, .ref (ad ρ))] := hl
  refine lv_aload_n hx hb dX4_perform_0 rfl (lv_at hl 1 rfl) ?_
  refine r_get hC hw rk5 in_X4_perform_5 ρ hst.1 hst.2 0 (by decide) lk_X4_perform_95 (v := .int 22) rfl dX4_perform_1 ?_
  refine lv_iconst (v := 1) hx hb dX4_perform_4 (by decide) ?_
  refine lv_icmp_lt (tgt := 26) hx hb dX4_perform_5 (by decide) (fun c_ => absurd c_ (by decide)) (fun _ => ?_)
  refine lv_aload_n hx hb dX4_perform_8 rfl (lv_at hl 1 rfl) ?_
  refine r_get hC hw rk5 in_X4_perform_5 ρ hst.1 hst.2 0 (by decide) lk_X4_perform_95 (v := .int 22) rfl dX4_perform_9 ?_
  refine lv_bipush (v := 26) hx hb dX4_perform_12 (by decide) ?_
  refine lv_icmp_gt (tgt := 26) hx hb dX4_perform_14 (by decide) (fun c_ => absurd c_ (by decide)) (fun _ => ?_)
  refine lv_aload_n hx hb dX4_perform_17 rfl (lv_at hl 0 rfl) ?_
  refine r_get hC hw rk4 in_X4_perform_4 3 (wXl 3 (by decide)) wXc3 2 (by decide) lk_X4_perform_24 (v := .ref (ad 4)) rfl dX4_perform_18 ?_
  refine lv_aload_n hx hb dX4_perform_21 rfl (lv_at hl 1 rfl) ?_
  refine r_ki hw (r_runV (rest := []) hC hw 4 (c_X2_reckon_22 l _ ρ xa xb xc hd th hst hs (nn_FB hB 22 _ _ _ (by decide) (by decide))) rk2 (wXl 4 (by decide)) wXc4 1 gX4_perform_X2_reckon rfl rfl rfl (by decide +kernel) ⟨Nat.le_of_ble_eq_true rfl, Nat.le_of_ble_eq_true rfl⟩ rfl hl.1 rfl (Nat.le_of_ble_eq_true rfl) dX4_perform_22 ⟨Nat.le_of_ble_eq_true rfl, Nat.le_of_ble_eq_true rfl⟩) (fun r_2 u_3 H locs h_1 hw => ?_)
  exact r_iret hC hr hlk hw (u_3, τ, ad) rfl ⟨⟨h_1, τ.2.2.1, rfl, fun _ => rfl⟩, fun _ _ => rfl⟩ (show _ ≤ 4 * g by omega) (show _ ≤ 44 * g by omega) dX4_perform_25

set_option maxHeartbeats 4000000 in
set_option maxRecDepth 100000 in
theorem c_X4_perform_23 (l : Launch) {D : va_G} {q : Nat → ClassId} {ad : Nat → Nat} {κ : KS} {τ : TAU} (sz : Nat) (ρ : Nat) (xa xb xc hd th : Int32) (hst : stepAt q ad κ τ ρ 23 xa xb xc) (hs : okStep 23 xa xb xc)(hX : WFx κ) (hm : vp_in (sI κ 2) 61) (hF : WFa κ τ (aN (sI κ 2))) (hρ : 400 ≤ ρ) (hB : FB κ) (hc6 : ∃ n, n ≤ 12 ∧ sI κ 6 = nI n) (hT : ¬ sI κ 7 < 0) (hhd : hd = sI κ 9) (hth : τ.2.2.2 = rT th) (hthv : ¬ th = 0 → aN (th - 1) < aN (sI κ 2)) (g : Nat) (hg : why κ 23 xa xb xc = 0 → mkN κ 23 xb ≤ g) : Met l yX4_perform wsX4_perform (rmc 4 99 (4 * g) (44 * g)) (va_Pc [.ref (ad 3), .ref (ad ρ)] (rPre D q (wX q ad κ τ) sz)) (va_Qi (fun (r : Int32) (u : KS × TAU × (Nat → Nat)) => ((r, u.1) = doR κ hd th 23 xa xb xc ∧ ∃ v, u.2.1 = (τ.1, τ.2.1, v, τ.2.2.2) ∧ (r = 0 → v = nxt κ 23 xa xb τ.2.2.1)) ∧ ∀ i, lvX κ i → u.2.2 i = ad i) (fun (u : KS × TAU × (Nat → Nat)) tt => rPo D (rA (wX q ad κ τ) sz) (wX q u.2.2 u.1 u.2.1) tt) (rA (wX q ad κ τ) sz)) (4 * g) (44 * g) (rA (wX q ad κ τ) sz) := by
  have hi0 : vp_in xa 4 := hs.1
  have hi1 : vp_in xb 4 := hs.2.1
  have hi2 : vp_in xc 4 := hs.2.2
  refine r_start (cc := cX4_perform) (maxL := 2) (ret := (some .int)) (by decide) rfl (Nat.le_of_ble_eq_true rfl) ?_
  intro p e s m below meth c ls hC hr hlk hnm hsz hw hl
  have hx := hC.1
  have hb := hC.2.1
  have hl : lv_has ls 2 [(0, .ref (ad 3)), (1, .ref (ad ρ))] := hl
  refine lv_aload_n hx hb dX4_perform_0 rfl (lv_at hl 1 rfl) ?_
  refine r_get hC hw rk5 in_X4_perform_5 ρ hst.1 hst.2 0 (by decide) lk_X4_perform_95 (v := .int 23) rfl dX4_perform_1 ?_
  refine lv_iconst (v := 1) hx hb dX4_perform_4 (by decide) ?_
  refine lv_icmp_lt (tgt := 26) hx hb dX4_perform_5 (by decide) (fun c_ => absurd c_ (by decide)) (fun _ => ?_)
  refine lv_aload_n hx hb dX4_perform_8 rfl (lv_at hl 1 rfl) ?_
  refine r_get hC hw rk5 in_X4_perform_5 ρ hst.1 hst.2 0 (by decide) lk_X4_perform_95 (v := .int 23) rfl dX4_perform_9 ?_
  refine lv_bipush (v := 26) hx hb dX4_perform_12 (by decide) ?_
  refine lv_icmp_gt (tgt := 26) hx hb dX4_perform_14 (by decide) (fun c_ => absurd c_ (by decide)) (fun _ => ?_)
  refine lv_aload_n hx hb dX4_perform_17 rfl (lv_at hl 0 rfl) ?_
  refine r_get hC hw rk4 in_X4_perform_4 3 (wXl 3 (by decide)) wXc3 2 (by decide) lk_X4_perform_24 (v := .ref (ad 4)) rfl dX4_perform_18 ?_
  refine lv_aload_n hx hb dX4_perform_21 rfl (lv_at hl 1 rfl) ?_
  refine r_ki hw (r_runV (rest := []) hC hw 4 (c_X2_reckon_23 l _ ρ xa xb xc hd th hst hs hB) rk2 (wXl 4 (by decide)) wXc4 1 gX4_perform_X2_reckon rfl rfl rfl (by decide +kernel) ⟨Nat.le_of_ble_eq_true rfl, Nat.le_of_ble_eq_true rfl⟩ rfl hl.1 rfl (Nat.le_of_ble_eq_true rfl) dX4_perform_22 ⟨Nat.le_of_ble_eq_true rfl, Nat.le_of_ble_eq_true rfl⟩) (fun r_2 u_3 H locs h_1 hw => ?_)
  exact r_iret hC hr hlk hw (u_3, τ, ad) rfl ⟨⟨h_1, τ.2.2.1, rfl, fun _ => rfl⟩, fun _ _ => rfl⟩ (show _ ≤ 4 * g by omega) (show _ ≤ 44 * g by omega) dX4_perform_25

set_option maxHeartbeats 4000000 in
set_option maxRecDepth 100000 in
theorem c_X4_perform_24 (l : Launch) {D : va_G} {q : Nat → ClassId} {ad : Nat → Nat} {κ : KS} {τ : TAU} (sz : Nat) (ρ : Nat) (xa xb xc hd th : Int32) (hst : stepAt q ad κ τ ρ 24 xa xb xc) (hs : okStep 24 xa xb xc)(hX : WFx κ) (hm : vp_in (sI κ 2) 61) (hF : WFa κ τ (aN (sI κ 2))) (hρ : 400 ≤ ρ) (hB : FB κ) (hc6 : ∃ n, n ≤ 12 ∧ sI κ 6 = nI n) (hT : ¬ sI κ 7 < 0) (hhd : hd = sI κ 9) (hth : τ.2.2.2 = rT th) (hthv : ¬ th = 0 → aN (th - 1) < aN (sI κ 2)) (g : Nat) (hg : why κ 24 xa xb xc = 0 → mkN κ 24 xb ≤ g) : Met l yX4_perform wsX4_perform (rmc 4 99 (4 * g) (44 * g)) (va_Pc [.ref (ad 3), .ref (ad ρ)] (rPre D q (wX q ad κ τ) sz)) (va_Qi (fun (r : Int32) (u : KS × TAU × (Nat → Nat)) => ((r, u.1) = doR κ hd th 24 xa xb xc ∧ ∃ v, u.2.1 = (τ.1, τ.2.1, v, τ.2.2.2) ∧ (r = 0 → v = nxt κ 24 xa xb τ.2.2.1)) ∧ ∀ i, lvX κ i → u.2.2 i = ad i) (fun (u : KS × TAU × (Nat → Nat)) tt => rPo D (rA (wX q ad κ τ) sz) (wX q u.2.2 u.1 u.2.1) tt) (rA (wX q ad κ τ) sz)) (4 * g) (44 * g) (rA (wX q ad κ τ) sz) := by
  have hi0 : vp_in xa 4 := hs.1
  have hi1 : vp_in xb 4 := hs.2.1
  have hi2 : vp_in xc 4 := hs.2.2
  refine r_start (cc := cX4_perform) (maxL := 2) (ret := (some .int)) (by decide) rfl (Nat.le_of_ble_eq_true rfl) ?_
  intro p e s m below meth c ls hC hr hlk hnm hsz hw hl
  have hx := hC.1
  have hb := hC.2.1
  have hl : lv_has ls 2 [(0, .ref (ad 3)), (1, .ref (ad ρ))] := hl
  refine lv_aload_n hx hb dX4_perform_0 rfl (lv_at hl 1 rfl) ?_
  refine r_get hC hw rk5 in_X4_perform_5 ρ hst.1 hst.2 0 (by decide) lk_X4_perform_95 (v := .int 24) rfl dX4_perform_1 ?_
  refine lv_iconst (v := 1) hx hb dX4_perform_4 (by decide) ?_
  refine lv_icmp_lt (tgt := 26) hx hb dX4_perform_5 (by decide) (fun c_ => absurd c_ (by decide)) (fun _ => ?_)
  refine lv_aload_n hx hb dX4_perform_8 rfl (lv_at hl 1 rfl) ?_
  refine r_get hC hw rk5 in_X4_perform_5 ρ hst.1 hst.2 0 (by decide) lk_X4_perform_95 (v := .int 24) rfl dX4_perform_9 ?_
  refine lv_bipush (v := 26) hx hb dX4_perform_12 (by decide) ?_
  refine lv_icmp_gt (tgt := 26) hx hb dX4_perform_14 (by decide) (fun c_ => absurd c_ (by decide)) (fun _ => ?_)
  refine lv_aload_n hx hb dX4_perform_17 rfl (lv_at hl 0 rfl) ?_
  refine r_get hC hw rk4 in_X4_perform_4 3 (wXl 3 (by decide)) wXc3 2 (by decide) lk_X4_perform_24 (v := .ref (ad 4)) rfl dX4_perform_18 ?_
  refine lv_aload_n hx hb dX4_perform_21 rfl (lv_at hl 1 rfl) ?_
  refine r_ki hw (r_runV (rest := []) hC hw 4 (c_X2_reckon_24 l _ ρ xa xb xc hd th hst hs hB) rk2 (wXl 4 (by decide)) wXc4 1 gX4_perform_X2_reckon rfl rfl rfl (by decide +kernel) ⟨Nat.le_of_ble_eq_true rfl, Nat.le_of_ble_eq_true rfl⟩ rfl hl.1 rfl (Nat.le_of_ble_eq_true rfl) dX4_perform_22 ⟨Nat.le_of_ble_eq_true rfl, Nat.le_of_ble_eq_true rfl⟩) (fun r_2 u_3 H locs h_1 hw => ?_)
  exact r_iret hC hr hlk hw (u_3, τ, ad) rfl ⟨⟨h_1, τ.2.2.1, rfl, fun _ => rfl⟩, fun _ _ => rfl⟩ (show _ ≤ 4 * g by omega) (show _ ≤ 44 * g by omega) dX4_perform_25

set_option maxHeartbeats 4000000 in
set_option maxRecDepth 100000 in
theorem c_X4_perform_25 (l : Launch) {D : va_G} {q : Nat → ClassId} {ad : Nat → Nat} {κ : KS} {τ : TAU} (sz : Nat) (ρ : Nat) (xa xb xc hd th : Int32) (hst : stepAt q ad κ τ ρ 25 xa xb xc) (hs : okStep 25 xa xb xc)(hX : WFx κ) (hm : vp_in (sI κ 2) 61) (hF : WFa κ τ (aN (sI κ 2))) (hρ : 400 ≤ ρ) (hB : FB κ) (hc6 : ∃ n, n ≤ 12 ∧ sI κ 6 = nI n) (hT : ¬ sI κ 7 < 0) (hhd : hd = sI κ 9) (hth : τ.2.2.2 = rT th) (hthv : ¬ th = 0 → aN (th - 1) < aN (sI κ 2)) (g : Nat) (hg : why κ 25 xa xb xc = 0 → mkN κ 25 xb ≤ g) : Met l yX4_perform wsX4_perform (rmc 4 99 (4 * g) (44 * g)) (va_Pc [.ref (ad 3), .ref (ad ρ)] (rPre D q (wX q ad κ τ) sz)) (va_Qi (fun (r : Int32) (u : KS × TAU × (Nat → Nat)) => ((r, u.1) = doR κ hd th 25 xa xb xc ∧ ∃ v, u.2.1 = (τ.1, τ.2.1, v, τ.2.2.2) ∧ (r = 0 → v = nxt κ 25 xa xb τ.2.2.1)) ∧ ∀ i, lvX κ i → u.2.2 i = ad i) (fun (u : KS × TAU × (Nat → Nat)) tt => rPo D (rA (wX q ad κ τ) sz) (wX q u.2.2 u.1 u.2.1) tt) (rA (wX q ad κ τ) sz)) (4 * g) (44 * g) (rA (wX q ad κ τ) sz) := by
  have hi0 : vp_in xa 8 := hs.1
  have hi1 : vp_in xb 8 := hs.2.1
  have hi2 : vp_in xc 8 := hs.2.2
  refine r_start (cc := cX4_perform) (maxL := 2) (ret := (some .int)) (by decide) rfl (Nat.le_of_ble_eq_true rfl) ?_
  intro p e s m below meth c ls hC hr hlk hnm hsz hw hl
  have hx := hC.1
  have hb := hC.2.1
  have hl : lv_has ls 2 [(0, .ref (ad 3)), (1, .ref (ad ρ))] := hl
  refine lv_aload_n hx hb dX4_perform_0 rfl (lv_at hl 1 rfl) ?_
  refine r_get hC hw rk5 in_X4_perform_5 ρ hst.1 hst.2 0 (by decide) lk_X4_perform_95 (v := .int 25) rfl dX4_perform_1 ?_
  refine lv_iconst (v := 1) hx hb dX4_perform_4 (by decide) ?_
  refine lv_icmp_lt (tgt := 26) hx hb dX4_perform_5 (by decide) (fun c_ => absurd c_ (by decide)) (fun _ => ?_)
  refine lv_aload_n hx hb dX4_perform_8 rfl (lv_at hl 1 rfl) ?_
  refine r_get hC hw rk5 in_X4_perform_5 ρ hst.1 hst.2 0 (by decide) lk_X4_perform_95 (v := .int 25) rfl dX4_perform_9 ?_
  refine lv_bipush (v := 26) hx hb dX4_perform_12 (by decide) ?_
  refine lv_icmp_gt (tgt := 26) hx hb dX4_perform_14 (by decide) (fun c_ => absurd c_ (by decide)) (fun _ => ?_)
  refine lv_aload_n hx hb dX4_perform_17 rfl (lv_at hl 0 rfl) ?_
  refine r_get hC hw rk4 in_X4_perform_4 3 (wXl 3 (by decide)) wXc3 2 (by decide) lk_X4_perform_24 (v := .ref (ad 4)) rfl dX4_perform_18 ?_
  refine lv_aload_n hx hb dX4_perform_21 rfl (lv_at hl 1 rfl) ?_
  refine r_ki hw (r_runV (rest := []) hC hw 4 (c_X2_reckon_25 l _ ρ xa xb xc hd th hst hs (nn_FB hB 25 _ _ _ (by decide) (by decide))) rk2 (wXl 4 (by decide)) wXc4 1 gX4_perform_X2_reckon rfl rfl rfl (by decide +kernel) ⟨Nat.le_of_ble_eq_true rfl, Nat.le_of_ble_eq_true rfl⟩ rfl hl.1 rfl (Nat.le_of_ble_eq_true rfl) dX4_perform_22 ⟨Nat.le_of_ble_eq_true rfl, Nat.le_of_ble_eq_true rfl⟩) (fun r_2 u_3 H locs h_1 hw => ?_)
  exact r_iret hC hr hlk hw (u_3, τ, ad) rfl ⟨⟨h_1, τ.2.2.1, rfl, fun _ => rfl⟩, fun _ _ => rfl⟩ (show _ ≤ 4 * g by omega) (show _ ≤ 44 * g by omega) dX4_perform_25

set_option maxHeartbeats 4000000 in
set_option maxRecDepth 100000 in
theorem c_X4_perform_26 (l : Launch) {D : va_G} {q : Nat → ClassId} {ad : Nat → Nat} {κ : KS} {τ : TAU} (sz : Nat) (ρ : Nat) (xa xb xc hd th : Int32) (hst : stepAt q ad κ τ ρ 26 xa xb xc) (hs : okStep 26 xa xb xc)(hX : WFx κ) (hm : vp_in (sI κ 2) 61) (hF : WFa κ τ (aN (sI κ 2))) (hρ : 400 ≤ ρ) (hB : FB κ) (hc6 : ∃ n, n ≤ 12 ∧ sI κ 6 = nI n) (hT : ¬ sI κ 7 < 0) (hhd : hd = sI κ 9) (hth : τ.2.2.2 = rT th) (hthv : ¬ th = 0 → aN (th - 1) < aN (sI κ 2)) (g : Nat) (hg : why κ 26 xa xb xc = 0 → mkN κ 26 xb ≤ g) : Met l yX4_perform wsX4_perform (rmc 4 99 (4 * g) (44 * g)) (va_Pc [.ref (ad 3), .ref (ad ρ)] (rPre D q (wX q ad κ τ) sz)) (va_Qi (fun (r : Int32) (u : KS × TAU × (Nat → Nat)) => ((r, u.1) = doR κ hd th 26 xa xb xc ∧ ∃ v, u.2.1 = (τ.1, τ.2.1, v, τ.2.2.2) ∧ (r = 0 → v = nxt κ 26 xa xb τ.2.2.1)) ∧ ∀ i, lvX κ i → u.2.2 i = ad i) (fun (u : KS × TAU × (Nat → Nat)) tt => rPo D (rA (wX q ad κ τ) sz) (wX q u.2.2 u.1 u.2.1) tt) (rA (wX q ad κ τ) sz)) (4 * g) (44 * g) (rA (wX q ad κ τ) sz) := by
  have hi0 : vp_in xa 8 := hs.1
  have hi1 : vp_in xb 4 := hs.2.1
  have hi2 : vp_in xc 4 := hs.2.2
  refine r_start (cc := cX4_perform) (maxL := 2) (ret := (some .int)) (by decide) rfl (Nat.le_of_ble_eq_true rfl) ?_
  intro p e s m below meth c ls hC hr hlk hnm hsz hw hl
  have hx := hC.1
  have hb := hC.2.1
  have hl : lv_has ls 2 [(0, .ref (ad 3)), (1, .ref (ad ρ))] := hl
  refine lv_aload_n hx hb dX4_perform_0 rfl (lv_at hl 1 rfl) ?_
  refine r_get hC hw rk5 in_X4_perform_5 ρ hst.1 hst.2 0 (by decide) lk_X4_perform_95 (v := .int 26) rfl dX4_perform_1 ?_
  refine lv_iconst (v := 1) hx hb dX4_perform_4 (by decide) ?_
  refine lv_icmp_lt (tgt := 26) hx hb dX4_perform_5 (by decide) (fun c_ => absurd c_ (by decide)) (fun _ => ?_)
  refine lv_aload_n hx hb dX4_perform_8 rfl (lv_at hl 1 rfl) ?_
  refine r_get hC hw rk5 in_X4_perform_5 ρ hst.1 hst.2 0 (by decide) lk_X4_perform_95 (v := .int 26) rfl dX4_perform_9 ?_
  refine lv_bipush (v := 26) hx hb dX4_perform_12 (by decide) ?_
  refine lv_icmp_gt (tgt := 26) hx hb dX4_perform_14 (by decide) (fun c_ => absurd c_ (by decide)) (fun _ => ?_)
  refine lv_aload_n hx hb dX4_perform_17 rfl (lv_at hl 0 rfl) ?_
  refine r_get hC hw rk4 in_X4_perform_4 3 (wXl 3 (by decide)) wXc3 2 (by decide) lk_X4_perform_24 (v := .ref (ad 4)) rfl dX4_perform_18 ?_
  refine lv_aload_n hx hb dX4_perform_21 rfl (lv_at hl 1 rfl) ?_
  refine r_ki hw (r_runV (rest := []) hC hw 4 (c_X2_reckon_26 l _ ρ xa xb xc hd th hst hs (nn_FB hB 26 _ _ _ (by decide) (by decide))) rk2 (wXl 4 (by decide)) wXc4 1 gX4_perform_X2_reckon rfl rfl rfl (by decide +kernel) ⟨Nat.le_of_ble_eq_true rfl, Nat.le_of_ble_eq_true rfl⟩ rfl hl.1 rfl (Nat.le_of_ble_eq_true rfl) dX4_perform_22 ⟨Nat.le_of_ble_eq_true rfl, Nat.le_of_ble_eq_true rfl⟩) (fun r_2 u_3 H locs h_1 hw => ?_)
  exact r_iret hC hr hlk hw (u_3, τ, ad) rfl ⟨⟨h_1, τ.2.2.1, rfl, fun _ => rfl⟩, fun _ _ => rfl⟩ (show _ ≤ 4 * g by omega) (show _ ≤ 44 * g by omega) dX4_perform_25

set_option maxHeartbeats 4000000 in
set_option maxRecDepth 100000 in
theorem c_X4_perform_27 (l : Launch) {D : va_G} {q : Nat → ClassId} {ad : Nat → Nat} {κ : KS} {τ : TAU} (sz : Nat) (ρ : Nat) (xa xb xc hd th : Int32) (hst : stepAt q ad κ τ ρ 27 xa xb xc) (hs : okStep 27 xa xb xc)(hX : WFx κ) (hm : vp_in (sI κ 2) 61) (hF : WFa κ τ (aN (sI κ 2))) (hρ : 400 ≤ ρ) (hB : FB κ) (hc6 : ∃ n, n ≤ 12 ∧ sI κ 6 = nI n) (hT : ¬ sI κ 7 < 0) (hhd : hd = sI κ 9) (hth : τ.2.2.2 = rT th) (hthv : ¬ th = 0 → aN (th - 1) < aN (sI κ 2)) (g : Nat) (hg : why κ 27 xa xb xc = 0 → mkN κ 27 xb ≤ g) : Met l yX4_perform wsX4_perform (rmc 4 99 (4 * g) (44 * g)) (va_Pc [.ref (ad 3), .ref (ad ρ)] (rPre D q (wX q ad κ τ) sz)) (va_Qi (fun (r : Int32) (u : KS × TAU × (Nat → Nat)) => ((r, u.1) = doR κ hd th 27 xa xb xc ∧ ∃ v, u.2.1 = (τ.1, τ.2.1, v, τ.2.2.2) ∧ (r = 0 → v = nxt κ 27 xa xb τ.2.2.1)) ∧ ∀ i, lvX κ i → u.2.2 i = ad i) (fun (u : KS × TAU × (Nat → Nat)) tt => rPo D (rA (wX q ad κ τ) sz) (wX q u.2.2 u.1 u.2.1) tt) (rA (wX q ad κ τ) sz)) (4 * g) (44 * g) (rA (wX q ad κ τ) sz) := by
  have hi0 : vp_in xa 200 := hs.1
  refine r_start (cc := cX4_perform) (maxL := 2) (ret := (some .int)) (by decide) rfl (Nat.le_of_ble_eq_true rfl) ?_
  intro p e s m below meth c ls hC hr hlk hnm hsz hw hl
  have hx := hC.1
  have hb := hC.2.1
  have hl : lv_has ls 2 [(0, .ref (ad 3)), (1, .ref (ad ρ))] := hl
  refine lv_aload_n hx hb dX4_perform_0 rfl (lv_at hl 1 rfl) ?_
  refine r_get hC hw rk5 in_X4_perform_5 ρ hst.1 hst.2 0 (by decide) lk_X4_perform_95 (v := .int 27) rfl dX4_perform_1 ?_
  refine lv_iconst (v := 1) hx hb dX4_perform_4 (by decide) ?_
  refine lv_icmp_lt (tgt := 26) hx hb dX4_perform_5 (by decide) (fun c_ => absurd c_ (by decide)) (fun _ => ?_)
  refine lv_aload_n hx hb dX4_perform_8 rfl (lv_at hl 1 rfl) ?_
  refine r_get hC hw rk5 in_X4_perform_5 ρ hst.1 hst.2 0 (by decide) lk_X4_perform_95 (v := .int 27) rfl dX4_perform_9 ?_
  refine lv_bipush (v := 26) hx hb dX4_perform_12 (by decide) ?_
  refine lv_icmp_gt (tgt := 26) hx hb dX4_perform_14 (by decide) (fun _ => ?_) (fun c_ => absurd (by decide) c_)
  refine lv_aload_n hx hb dX4_perform_26 rfl (lv_at hl 1 rfl) ?_
  refine r_get hC hw rk5 in_X4_perform_5 ρ hst.1 hst.2 0 (by decide) lk_X4_perform_95 (v := .int 27) rfl dX4_perform_27 ?_
  refine lv_lookup (off := 89) (tgt := 119) hx hb dX4_perform_30 (by decide) (by decide) (by decide) ?_
  refine lv_aload_n hx hb dX4_perform_119 rfl (lv_at hl 0 rfl) ?_
  refine lv_aload_n hx hb dX4_perform_120 rfl (lv_at hl 1 rfl) ?_
  refine r_get hC hw rk5 in_X4_perform_5 ρ hst.1 hst.2 1 (by decide) lk_X4_perform_103 (v := .int xa) rfl dX4_perform_121 ?_
  refine r_put hC hw rk4 in_X4_perform_4 3 (wXl 3 (by decide)) wXc3 8 (by decide) lk_X4_perform_78 rfl rfl rfl (Nat.le_of_ble_eq_true rfl) dX4_perform_124 (fun H locs hw => ?_)
  replace hw := xP_next hw
  refine lv_iconst (v := 0) hx hb dX4_perform_127 (by decide) ?_
  exact r_iret hC hr hlk hw (κ, (τ.1, τ.2.1, xa, τ.2.2.2), ad) rfl ⟨⟨(doR0 (κ := κ) (hd := hd) (th := th) (k := 27) (a := xa) (b := xb) (c := xc) rfl).symm, _, rfl, fun _ => rfl⟩, fun _ _ => rfl⟩ (show _ ≤ 4 * g by omega) (show _ ≤ 44 * g by omega) dX4_perform_128

set_option maxHeartbeats 4000000 in
set_option maxRecDepth 100000 in
theorem c_X4_perform_28 (l : Launch) {D : va_G} {q : Nat → ClassId} {ad : Nat → Nat} {κ : KS} {τ : TAU} (sz : Nat) (ρ : Nat) (xa xb xc hd th : Int32) (hst : stepAt q ad κ τ ρ 28 xa xb xc) (hs : okStep 28 xa xb xc)(hX : WFx κ) (hm : vp_in (sI κ 2) 61) (hF : WFa κ τ (aN (sI κ 2))) (hρ : 400 ≤ ρ) (hB : FB κ) (hc6 : ∃ n, n ≤ 12 ∧ sI κ 6 = nI n) (hT : ¬ sI κ 7 < 0) (hhd : hd = sI κ 9) (hth : τ.2.2.2 = rT th) (hthv : ¬ th = 0 → aN (th - 1) < aN (sI κ 2)) (g : Nat) (hg : why κ 28 xa xb xc = 0 → mkN κ 28 xb ≤ g) : Met l yX4_perform wsX4_perform (rmc 4 99 (4 * g) (44 * g)) (va_Pc [.ref (ad 3), .ref (ad ρ)] (rPre D q (wX q ad κ τ) sz)) (va_Qi (fun (r : Int32) (u : KS × TAU × (Nat → Nat)) => ((r, u.1) = doR κ hd th 28 xa xb xc ∧ ∃ v, u.2.1 = (τ.1, τ.2.1, v, τ.2.2.2) ∧ (r = 0 → v = nxt κ 28 xa xb τ.2.2.1)) ∧ ∀ i, lvX κ i → u.2.2 i = ad i) (fun (u : KS × TAU × (Nat → Nat)) tt => rPo D (rA (wX q ad κ τ) sz) (wX q u.2.2 u.1 u.2.1) tt) (rA (wX q ad κ τ) sz)) (4 * g) (44 * g) (rA (wX q ad κ τ) sz) := by
  have hi0 : vp_in xa 8 := hs.1
  have hi1 : vp_in xb 200 := hs.2.1
  refine r_start (cc := cX4_perform) (maxL := 2) (ret := (some .int)) (by decide) rfl (Nat.le_of_ble_eq_true rfl) ?_
  intro p e s m below meth c ls hC hr hlk hnm hsz hw hl
  have hx := hC.1
  have hb := hC.2.1
  have hl : lv_has ls 2 [(0, .ref (ad 3)), (1, .ref (ad ρ))] := hl
  refine lv_aload_n hx hb dX4_perform_0 rfl (lv_at hl 1 rfl) ?_
  refine r_get hC hw rk5 in_X4_perform_5 ρ hst.1 hst.2 0 (by decide) lk_X4_perform_95 (v := .int 28) rfl dX4_perform_1 ?_
  refine lv_iconst (v := 1) hx hb dX4_perform_4 (by decide) ?_
  refine lv_icmp_lt (tgt := 26) hx hb dX4_perform_5 (by decide) (fun c_ => absurd c_ (by decide)) (fun _ => ?_)
  refine lv_aload_n hx hb dX4_perform_8 rfl (lv_at hl 1 rfl) ?_
  refine r_get hC hw rk5 in_X4_perform_5 ρ hst.1 hst.2 0 (by decide) lk_X4_perform_95 (v := .int 28) rfl dX4_perform_9 ?_
  refine lv_bipush (v := 26) hx hb dX4_perform_12 (by decide) ?_
  refine lv_icmp_gt (tgt := 26) hx hb dX4_perform_14 (by decide) (fun _ => ?_) (fun c_ => absurd (by decide) c_)
  refine lv_aload_n hx hb dX4_perform_26 rfl (lv_at hl 1 rfl) ?_
  refine r_get hC hw rk5 in_X4_perform_5 ρ hst.1 hst.2 0 (by decide) lk_X4_perform_95 (v := .int 28) rfl dX4_perform_27 ?_
  refine lv_lookup (off := 99) (tgt := 129) hx hb dX4_perform_30 (by decide) (by decide) (by decide) ?_
  refine lv_aload_n hx hb dX4_perform_129 rfl (lv_at hl 0 rfl) ?_
  refine lv_aload_n hx hb dX4_perform_130 rfl (lv_at hl 0 rfl) ?_
  refine r_get hC hw rk4 in_X4_perform_4 3 (wXl 3 (by decide)) wXc3 1 (by decide) lk_X4_perform_15 (v := .ref (ad 2)) rfl dX4_perform_131 ?_
  refine lv_aload_n hx hb dX4_perform_134 rfl (lv_at hl 1 rfl) ?_
  refine r_get hC hw rk5 in_X4_perform_5 ρ hst.1 hst.2 1 (by decide) lk_X4_perform_103 (v := .int xa) rfl dX4_perform_135 ?_
  refine r_ki hw (r_runV (rest := [.ref (ad 3)]) hC hw 2 (c_X3_getWord l _ _ 2 8 xa (wXl 2 (by decide)) wXc2 (wXl 8 (by decide)) wXc8) rk3 (wXl 2 (by decide)) wXc2 1 gX4_perform_X3_getWord rfl rfl rfl (by decide +kernel) ⟨Nat.le_of_ble_eq_true rfl, Nat.le_of_ble_eq_true rfl⟩ rfl hl.1 rfl (Nat.le_of_ble_eq_true rfl) dX4_perform_138 ⟨Nat.le_of_ble_eq_true rfl, Nat.le_of_ble_eq_true rfl⟩) (fun r_2 u_3 H locs h_1 hw => ?_)
  subst h_1
  refine r_topv (y := .int (sA κ 2 (aN xa))) (congrArg _ (gN_in (by assumption) (by decide))) ?_
  refine lv_if_ne (tgt := 151) hx hb dX4_perform_141 (by decide) (fun c_4 => ?_) (fun c_4 => ?_)
  · refine lv_aload_n hx hb dX4_perform_151 rfl (lv_at hl 0 rfl) ?_
    refine r_get hC hw rk4 in_X4_perform_4 3 (wXl 3 (by decide)) wXc3 8 (by decide) lk_X4_perform_78 (v := .int τ.2.2.1) rfl dX4_perform_152 ?_
    refine r_put hC hw rk4 in_X4_perform_4 3 (wXl 3 (by decide)) wXc3 8 (by decide) lk_X4_perform_78 rfl rfl rfl (Nat.le_of_ble_eq_true rfl) dX4_perform_155 (fun H locs hw => ?_)
    replace hw := xP_next hw
    refine lv_iconst (v := 0) hx hb dX4_perform_158 (by decide) ?_
    exact r_iret hC hr hlk hw (κ, (τ.1, τ.2.1, τ.2.2.1, τ.2.2.2), ad) rfl ⟨⟨(doR0 (κ := κ) (hd := hd) (th := th) (k := 28) (a := xa) (b := xb) (c := xc) rfl).symm, _, rfl, fun _ => (if_neg c_4).symm⟩, fun _ _ => rfl⟩ (show _ ≤ 4 * g by omega) (show _ ≤ 44 * g by omega) dX4_perform_159
  · refine lv_aload_n hx hb dX4_perform_144 rfl (lv_at hl 1 rfl) ?_
    refine r_get hC hw rk5 in_X4_perform_5 ρ hst.1 hst.2 2 (by decide) lk_X4_perform_112 (v := .int xb) rfl dX4_perform_145 ?_
    refine lv_goto (tgt := 155) hx hb dX4_perform_148 (by decide) ?_
    refine r_put hC hw rk4 in_X4_perform_4 3 (wXl 3 (by decide)) wXc3 8 (by decide) lk_X4_perform_78 rfl rfl rfl (Nat.le_of_ble_eq_true rfl) dX4_perform_155 (fun H locs hw => ?_)
    replace hw := xP_next hw
    refine lv_iconst (v := 0) hx hb dX4_perform_158 (by decide) ?_
    exact r_iret hC hr hlk hw (κ, (τ.1, τ.2.1, xb, τ.2.2.2), ad) rfl ⟨⟨(doR0 (κ := κ) (hd := hd) (th := th) (k := 28) (a := xa) (b := xb) (c := xc) rfl).symm, _, rfl, fun _ => (if_pos c_4).symm⟩, fun _ _ => rfl⟩ (show _ ≤ 4 * g by omega) (show _ ≤ 44 * g by omega) dX4_perform_159

set_option maxHeartbeats 4000000 in
set_option maxRecDepth 100000 in
theorem c_X4_perform_29 (l : Launch) {D : va_G} {q : Nat → ClassId} {ad : Nat → Nat} {κ : KS} {τ : TAU} (sz : Nat) (ρ : Nat) (xa xb xc hd th : Int32) (hst : stepAt q ad κ τ ρ 29 xa xb xc) (hs : okStep 29 xa xb xc)(hX : WFx κ) (hm : vp_in (sI κ 2) 61) (hF : WFa κ τ (aN (sI κ 2))) (hρ : 400 ≤ ρ) (hB : FB κ) (hc6 : ∃ n, n ≤ 12 ∧ sI κ 6 = nI n) (hT : ¬ sI κ 7 < 0) (hhd : hd = sI κ 9) (hth : τ.2.2.2 = rT th) (hthv : ¬ th = 0 → aN (th - 1) < aN (sI κ 2)) (g : Nat) (hg : why κ 29 xa xb xc = 0 → mkN κ 29 xb ≤ g) : Met l yX4_perform wsX4_perform (rmc 4 99 (4 * g) (44 * g)) (va_Pc [.ref (ad 3), .ref (ad ρ)] (rPre D q (wX q ad κ τ) sz)) (va_Qi (fun (r : Int32) (u : KS × TAU × (Nat → Nat)) => ((r, u.1) = doR κ hd th 29 xa xb xc ∧ ∃ v, u.2.1 = (τ.1, τ.2.1, v, τ.2.2.2) ∧ (r = 0 → v = nxt κ 29 xa xb τ.2.2.1)) ∧ ∀ i, lvX κ i → u.2.2 i = ad i) (fun (u : KS × TAU × (Nat → Nat)) tt => rPo D (rA (wX q ad κ τ) sz) (wX q u.2.2 u.1 u.2.1) tt) (rA (wX q ad κ τ) sz)) (4 * g) (44 * g) (rA (wX q ad κ τ) sz) := by
  have hi0 : vp_in xa 200 := hs.1
  refine r_start (cc := cX4_perform) (maxL := 2) (ret := (some .int)) (by decide) rfl (Nat.le_of_ble_eq_true rfl) ?_
  intro p e s m below meth c ls hC hr hlk hnm hsz hw hl
  have hx := hC.1
  have hb := hC.2.1
  have hl : lv_has ls 2 [(0, .ref (ad 3)), (1, .ref (ad ρ))] := hl
  refine lv_aload_n hx hb dX4_perform_0 rfl (lv_at hl 1 rfl) ?_
  refine r_get hC hw rk5 in_X4_perform_5 ρ hst.1 hst.2 0 (by decide) lk_X4_perform_95 (v := .int 29) rfl dX4_perform_1 ?_
  refine lv_iconst (v := 1) hx hb dX4_perform_4 (by decide) ?_
  refine lv_icmp_lt (tgt := 26) hx hb dX4_perform_5 (by decide) (fun c_ => absurd c_ (by decide)) (fun _ => ?_)
  refine lv_aload_n hx hb dX4_perform_8 rfl (lv_at hl 1 rfl) ?_
  refine r_get hC hw rk5 in_X4_perform_5 ρ hst.1 hst.2 0 (by decide) lk_X4_perform_95 (v := .int 29) rfl dX4_perform_9 ?_
  refine lv_bipush (v := 26) hx hb dX4_perform_12 (by decide) ?_
  refine lv_icmp_gt (tgt := 26) hx hb dX4_perform_14 (by decide) (fun _ => ?_) (fun c_ => absurd (by decide) c_)
  refine lv_aload_n hx hb dX4_perform_26 rfl (lv_at hl 1 rfl) ?_
  refine r_get hC hw rk5 in_X4_perform_5 ρ hst.1 hst.2 0 (by decide) lk_X4_perform_95 (v := .int 29) rfl dX4_perform_27 ?_
  refine lv_lookup (off := 130) (tgt := 160) hx hb dX4_perform_30 (by decide) (by decide) (by decide) ?_
  refine lv_aload_n hx hb dX4_perform_160 rfl (lv_at hl 0 rfl) ?_
  refine lv_aload_n hx hb dX4_perform_161 rfl (lv_at hl 1 rfl) ?_
  refine r_get hC hw rk5 in_X4_perform_5 ρ hst.1 hst.2 1 (by decide) lk_X4_perform_103 (v := .int xa) rfl dX4_perform_162 ?_
  refine r_ki hw (r_runV (rest := []) hC hw 3 (c_X4_callPlace (ad := ad) l _ xa (c6nn hc6)) rk4 (wXl 3 (by decide)) wXc3 1 gX4_perform_X4_callPlace rfl rfl rfl (by decide +kernel) ⟨Nat.le_of_ble_eq_true rfl, Nat.le_of_ble_eq_true rfl⟩ rfl hl.1 rfl (Nat.le_of_ble_eq_true rfl) dX4_perform_165 ⟨Nat.le_of_ble_eq_true rfl, Nat.le_of_ble_eq_true rfl⟩) (fun r_2 u_3 H locs h_1 hw => ?_)
  have h29 := doR29 (hd := hd) (th := th) (b := xb) (c := xc) hc6 h_1
  exact r_iret hC hr hlk hw (u_3.1, u_3.2, ad) rfl ⟨⟨h29.1, h29.2⟩, fun _ _ => rfl⟩ (show _ ≤ 4 * g by omega) (show _ ≤ 44 * g by omega) dX4_perform_168

set_option maxHeartbeats 4000000 in
set_option maxRecDepth 100000 in
theorem c_X4_perform_30 (l : Launch) {D : va_G} {q : Nat → ClassId} {ad : Nat → Nat} {κ : KS} {τ : TAU} (sz : Nat) (ρ : Nat) (xa xb xc hd th : Int32) (hst : stepAt q ad κ τ ρ 30 xa xb xc) (hs : okStep 30 xa xb xc)(hX : WFx κ) (hm : vp_in (sI κ 2) 61) (hF : WFa κ τ (aN (sI κ 2))) (hρ : 400 ≤ ρ) (hB : FB κ) (hc6 : ∃ n, n ≤ 12 ∧ sI κ 6 = nI n) (hT : ¬ sI κ 7 < 0) (hhd : hd = sI κ 9) (hth : τ.2.2.2 = rT th) (hthv : ¬ th = 0 → aN (th - 1) < aN (sI κ 2)) (g : Nat) (hg : why κ 30 xa xb xc = 0 → mkN κ 30 xb ≤ g) : Met l yX4_perform wsX4_perform (rmc 4 99 (4 * g) (44 * g)) (va_Pc [.ref (ad 3), .ref (ad ρ)] (rPre D q (wX q ad κ τ) sz)) (va_Qi (fun (r : Int32) (u : KS × TAU × (Nat → Nat)) => ((r, u.1) = doR κ hd th 30 xa xb xc ∧ ∃ v, u.2.1 = (τ.1, τ.2.1, v, τ.2.2.2) ∧ (r = 0 → v = nxt κ 30 xa xb τ.2.2.1)) ∧ ∀ i, lvX κ i → u.2.2 i = ad i) (fun (u : KS × TAU × (Nat → Nat)) tt => rPo D (rA (wX q ad κ τ) sz) (wX q u.2.2 u.1 u.2.1) tt) (rA (wX q ad κ τ) sz)) (4 * g) (44 * g) (rA (wX q ad κ τ) sz) := by
  by_cases h60 : sI κ 6 = 0
  · refine r_start (cc := cX4_perform) (maxL := 2) (ret := (some .int)) (by decide) rfl (Nat.le_of_ble_eq_true rfl) ?_
    intro p e s m below meth c ls hC hr hlk hnm hsz hw hl
    have hx := hC.1
    have hb := hC.2.1
    have hl : lv_has ls 2 [(0, .ref (ad 3)), (1, .ref (ad ρ))] := hl
    refine lv_aload_n hx hb dX4_perform_0 rfl (lv_at hl 1 rfl) ?_
    refine r_get hC hw rk5 in_X4_perform_5 ρ hst.1 hst.2 0 (by decide) lk_X4_perform_95 (v := .int 30) rfl dX4_perform_1 ?_
    refine lv_iconst (v := 1) hx hb dX4_perform_4 (by decide) ?_
    refine lv_icmp_lt (tgt := 26) hx hb dX4_perform_5 (by decide) (fun c_ => absurd c_ (by decide)) (fun _ => ?_)
    refine lv_aload_n hx hb dX4_perform_8 rfl (lv_at hl 1 rfl) ?_
    refine r_get hC hw rk5 in_X4_perform_5 ρ hst.1 hst.2 0 (by decide) lk_X4_perform_95 (v := .int 30) rfl dX4_perform_9 ?_
    refine lv_bipush (v := 26) hx hb dX4_perform_12 (by decide) ?_
    refine lv_icmp_gt (tgt := 26) hx hb dX4_perform_14 (by decide) (fun _ => ?_) (fun c_ => absurd (by decide) c_)
    refine lv_aload_n hx hb dX4_perform_26 rfl (lv_at hl 1 rfl) ?_
    refine r_get hC hw rk5 in_X4_perform_5 ρ hst.1 hst.2 0 (by decide) lk_X4_perform_95 (v := .int 30) rfl dX4_perform_27 ?_
    refine lv_lookup (off := 139) (tgt := 169) hx hb dX4_perform_30 (by decide) (by decide) (by decide) ?_
    refine lv_aload_n hx hb dX4_perform_169 rfl (lv_at hl 0 rfl) ?_
    refine r_kv hw (r_runV (rest := []) hC hw 3 (c_X4_comeBack0 (ad := ad) l _ h60) rk4 (wXl 3 (by decide)) wXc3 0 gX4_perform_X4_comeBack rfl rfl rfl (by decide +kernel) ⟨Nat.le_of_ble_eq_true rfl, Nat.le_of_ble_eq_true rfl⟩ rfl hl.1 rfl (Nat.le_of_ble_eq_true rfl) dX4_perform_170 ⟨Nat.le_of_ble_eq_true rfl, Nat.le_of_ble_eq_true rfl⟩) (fun u_3 H locs h_1 hw => ?_)
    subst h_1
    dsimp only at hw
    refine lv_iconst (v := 0) hx hb dX4_perform_173 (by decide) ?_
    exact r_iret hC hr hlk hw (uI κ 3 2, τ, ad) rfl ⟨⟨doR30a h60, τ.2.2.1, rfl, fun _ => (if_pos h60).symm⟩, fun _ _ => rfl⟩ (show _ ≤ 4 * g by omega) (show _ ≤ 44 * g by omega) dX4_perform_174
  · obtain ⟨n6, h12, hn6⟩ := c0 hc6 h60
    refine r_start (cc := cX4_perform) (maxL := 2) (ret := (some .int)) (by decide) rfl (Nat.le_of_ble_eq_true rfl) ?_
    intro p e s m below meth c ls hC hr hlk hnm hsz hw hl
    have hx := hC.1
    have hb := hC.2.1
    have hl : lv_has ls 2 [(0, .ref (ad 3)), (1, .ref (ad ρ))] := hl
    refine lv_aload_n hx hb dX4_perform_0 rfl (lv_at hl 1 rfl) ?_
    refine r_get hC hw rk5 in_X4_perform_5 ρ hst.1 hst.2 0 (by decide) lk_X4_perform_95 (v := .int 30) rfl dX4_perform_1 ?_
    refine lv_iconst (v := 1) hx hb dX4_perform_4 (by decide) ?_
    refine lv_icmp_lt (tgt := 26) hx hb dX4_perform_5 (by decide) (fun c_ => absurd c_ (by decide)) (fun _ => ?_)
    refine lv_aload_n hx hb dX4_perform_8 rfl (lv_at hl 1 rfl) ?_
    refine r_get hC hw rk5 in_X4_perform_5 ρ hst.1 hst.2 0 (by decide) lk_X4_perform_95 (v := .int 30) rfl dX4_perform_9 ?_
    refine lv_bipush (v := 26) hx hb dX4_perform_12 (by decide) ?_
    refine lv_icmp_gt (tgt := 26) hx hb dX4_perform_14 (by decide) (fun _ => ?_) (fun c_ => absurd (by decide) c_)
    refine lv_aload_n hx hb dX4_perform_26 rfl (lv_at hl 1 rfl) ?_
    refine r_get hC hw rk5 in_X4_perform_5 ρ hst.1 hst.2 0 (by decide) lk_X4_perform_95 (v := .int 30) rfl dX4_perform_27 ?_
    refine lv_lookup (off := 139) (tgt := 169) hx hb dX4_perform_30 (by decide) (by decide) (by decide) ?_
    refine lv_aload_n hx hb dX4_perform_169 rfl (lv_at hl 0 rfl) ?_
    refine r_kv hw (r_runV (rest := []) hC hw 3 (c_X4_comeBack (ad := ad) l _ n6 hn6 h12) rk4 (wXl 3 (by decide)) wXc3 0 gX4_perform_X4_comeBack rfl rfl rfl (by decide +kernel) ⟨Nat.le_of_ble_eq_true rfl, Nat.le_of_ble_eq_true rfl⟩ rfl hl.1 rfl (Nat.le_of_ble_eq_true rfl) dX4_perform_170 ⟨Nat.le_of_ble_eq_true rfl, Nat.le_of_ble_eq_true rfl⟩) (fun u_3 H locs h_1 hw => ?_)
    subst h_1
    dsimp only at hw
    refine lv_iconst (v := 0) hx hb dX4_perform_173 (by decide) ?_
    exact r_iret hC hr hlk hw (uI κ 6 (nI n6), (τ.1, τ.2.1, sA κ 9 n6 + 1, τ.2.2.2), ad) rfl ⟨⟨doR30b hn6 h12, _, rfl, fun _ => nxt30 hn6 h12⟩, fun _ _ => rfl⟩ (show _ ≤ 4 * g by omega) (show _ ≤ 44 * g by omega) dX4_perform_174

set_option maxHeartbeats 4000000 in
set_option maxRecDepth 100000 in
theorem c_X4_perform_31 (l : Launch) {D : va_G} {q : Nat → ClassId} {ad : Nat → Nat} {κ : KS} {τ : TAU} (sz : Nat) (ρ : Nat) (xa xb xc hd th : Int32) (hst : stepAt q ad κ τ ρ 31 xa xb xc) (hs : okStep 31 xa xb xc)(hX : WFx κ) (hm : vp_in (sI κ 2) 61) (hF : WFa κ τ (aN (sI κ 2))) (hρ : 400 ≤ ρ) (hB : FB κ) (hc6 : ∃ n, n ≤ 12 ∧ sI κ 6 = nI n) (hT : ¬ sI κ 7 < 0) (hhd : hd = sI κ 9) (hth : τ.2.2.2 = rT th) (hthv : ¬ th = 0 → aN (th - 1) < aN (sI κ 2)) (g : Nat) (hg : why κ 31 xa xb xc = 0 → mkN κ 31 xb ≤ g) : Met l yX4_perform wsX4_perform (rmc 4 99 (4 * g) (44 * g)) (va_Pc [.ref (ad 3), .ref (ad ρ)] (rPre D q (wX q ad κ τ) sz)) (va_Qi (fun (r : Int32) (u : KS × TAU × (Nat → Nat)) => ((r, u.1) = doR κ hd th 31 xa xb xc ∧ ∃ v, u.2.1 = (τ.1, τ.2.1, v, τ.2.2.2) ∧ (r = 0 → v = nxt κ 31 xa xb τ.2.2.1)) ∧ ∀ i, lvX κ i → u.2.2 i = ad i) (fun (u : KS × TAU × (Nat → Nat)) tt => rPo D (rA (wX q ad κ τ) sz) (wX q u.2.2 u.1 u.2.1) tt) (rA (wX q ad κ τ) sz)) (4 * g) (44 * g) (rA (wX q ad κ τ) sz) := by
  have hi0 : vp_in xa 8 := hs.1
  have hi1 : vp_in xb 10 := hs.2.1
  have hi2 : vp_in xc 8 := hs.2.2
  refine r_start (cc := cX4_perform) (maxL := 2) (ret := (some .int)) (by decide) rfl (Nat.le_of_ble_eq_true rfl) ?_
  intro p e s m below meth c ls hC hr hlk hnm hsz hw hl
  have hx := hC.1
  have hb := hC.2.1
  have hl : lv_has ls 2 [(0, .ref (ad 3)), (1, .ref (ad ρ))] := hl
  refine lv_aload_n hx hb dX4_perform_0 rfl (lv_at hl 1 rfl) ?_
  refine r_get hC hw rk5 in_X4_perform_5 ρ hst.1 hst.2 0 (by decide) lk_X4_perform_95 (v := .int 31) rfl dX4_perform_1 ?_
  refine lv_iconst (v := 1) hx hb dX4_perform_4 (by decide) ?_
  refine lv_icmp_lt (tgt := 26) hx hb dX4_perform_5 (by decide) (fun c_ => absurd c_ (by decide)) (fun _ => ?_)
  refine lv_aload_n hx hb dX4_perform_8 rfl (lv_at hl 1 rfl) ?_
  refine r_get hC hw rk5 in_X4_perform_5 ρ hst.1 hst.2 0 (by decide) lk_X4_perform_95 (v := .int 31) rfl dX4_perform_9 ?_
  refine lv_bipush (v := 26) hx hb dX4_perform_12 (by decide) ?_
  refine lv_icmp_gt (tgt := 26) hx hb dX4_perform_14 (by decide) (fun _ => ?_) (fun c_ => absurd (by decide) c_)
  refine lv_aload_n hx hb dX4_perform_26 rfl (lv_at hl 1 rfl) ?_
  refine r_get hC hw rk5 in_X4_perform_5 ρ hst.1 hst.2 0 (by decide) lk_X4_perform_95 (v := .int 31) rfl dX4_perform_27 ?_
  refine lv_lookup (off := 211) (tgt := 241) hx hb dX4_perform_30 (by decide) (by decide) (by decide) ?_
  refine lv_aload_n hx hb dX4_perform_241 rfl (lv_at hl 0 rfl) ?_
  refine r_get hC hw rk4 in_X4_perform_4 3 (wXl 3 (by decide)) wXc3 3 (by decide) lk_X4_perform_31 (v := .ref (ad 5)) rfl dX4_perform_242 ?_
  refine lv_aload_n hx hb dX4_perform_245 rfl (lv_at hl 1 rfl) ?_
  refine r_ki hw (r_runV (rest := []) hC hw 5 (c_X7_weave_31 l _ ρ xa xb xc hd th hst hs hX hm hF hρ g hg) rk7 (wXl 5 (by decide)) wXc5 1 gX4_perform_X7_weave rfl rfl rfl (by decide +kernel) ⟨Nat.le_of_ble_eq_true rfl, Nat.le_of_ble_eq_true rfl⟩ rfl hl.1 rfl (Nat.le_of_ble_eq_true rfl) dX4_perform_246 ⟨show 0 + (4 * g) ≤ 4 * g by omega, show 0 + (44 * g) ≤ 44 * g by omega⟩) (fun r_2 u_3 H locs h_1 hw => ?_)
  exact r_iret hC hr hlk hw (u_3.1, τ, u_3.2) rfl ⟨⟨h_1.1, τ.2.2.1, rfl, fun _ => rfl⟩, h_1.2⟩ (show _ ≤ 4 * g by omega) (show _ ≤ 44 * g by omega) dX4_perform_249

set_option maxHeartbeats 4000000 in
set_option maxRecDepth 100000 in
theorem c_X4_perform_32 (l : Launch) {D : va_G} {q : Nat → ClassId} {ad : Nat → Nat} {κ : KS} {τ : TAU} (sz : Nat) (ρ : Nat) (xa xb xc hd th : Int32) (hst : stepAt q ad κ τ ρ 32 xa xb xc) (hs : okStep 32 xa xb xc)(hX : WFx κ) (hm : vp_in (sI κ 2) 61) (hF : WFa κ τ (aN (sI κ 2))) (hρ : 400 ≤ ρ) (hB : FB κ) (hc6 : ∃ n, n ≤ 12 ∧ sI κ 6 = nI n) (hT : ¬ sI κ 7 < 0) (hhd : hd = sI κ 9) (hth : τ.2.2.2 = rT th) (hthv : ¬ th = 0 → aN (th - 1) < aN (sI κ 2)) (g : Nat) (hg : why κ 32 xa xb xc = 0 → mkN κ 32 xb ≤ g) : Met l yX4_perform wsX4_perform (rmc 4 99 (4 * g) (44 * g)) (va_Pc [.ref (ad 3), .ref (ad ρ)] (rPre D q (wX q ad κ τ) sz)) (va_Qi (fun (r : Int32) (u : KS × TAU × (Nat → Nat)) => ((r, u.1) = doR κ hd th 32 xa xb xc ∧ ∃ v, u.2.1 = (τ.1, τ.2.1, v, τ.2.2.2) ∧ (r = 0 → v = nxt κ 32 xa xb τ.2.2.1)) ∧ ∀ i, lvX κ i → u.2.2 i = ad i) (fun (u : KS × TAU × (Nat → Nat)) tt => rPo D (rA (wX q ad κ τ) sz) (wX q u.2.2 u.1 u.2.1) tt) (rA (wX q ad κ τ) sz)) (4 * g) (44 * g) (rA (wX q ad κ τ) sz) := by
  have hi0 : vp_in xa 8 := hs.1
  have hi1 : vp_in xb 8 := hs.2.1
  have hi2 : vp_in xc 8 := hs.2.2
  refine r_start (cc := cX4_perform) (maxL := 2) (ret := (some .int)) (by decide) rfl (Nat.le_of_ble_eq_true rfl) ?_
  intro p e s m below meth c ls hC hr hlk hnm hsz hw hl
  have hx := hC.1
  have hb := hC.2.1
  have hl : lv_has ls 2 [(0, .ref (ad 3)), (1, .ref (ad ρ))] := hl
  refine lv_aload_n hx hb dX4_perform_0 rfl (lv_at hl 1 rfl) ?_
  refine r_get hC hw rk5 in_X4_perform_5 ρ hst.1 hst.2 0 (by decide) lk_X4_perform_95 (v := .int 32) rfl dX4_perform_1 ?_
  refine lv_iconst (v := 1) hx hb dX4_perform_4 (by decide) ?_
  refine lv_icmp_lt (tgt := 26) hx hb dX4_perform_5 (by decide) (fun c_ => absurd c_ (by decide)) (fun _ => ?_)
  refine lv_aload_n hx hb dX4_perform_8 rfl (lv_at hl 1 rfl) ?_
  refine r_get hC hw rk5 in_X4_perform_5 ρ hst.1 hst.2 0 (by decide) lk_X4_perform_95 (v := .int 32) rfl dX4_perform_9 ?_
  refine lv_bipush (v := 26) hx hb dX4_perform_12 (by decide) ?_
  refine lv_icmp_gt (tgt := 26) hx hb dX4_perform_14 (by decide) (fun _ => ?_) (fun c_ => absurd (by decide) c_)
  refine lv_aload_n hx hb dX4_perform_26 rfl (lv_at hl 1 rfl) ?_
  refine r_get hC hw rk5 in_X4_perform_5 ρ hst.1 hst.2 0 (by decide) lk_X4_perform_95 (v := .int 32) rfl dX4_perform_27 ?_
  refine lv_lookup (off := 211) (tgt := 241) hx hb dX4_perform_30 (by decide) (by decide) (by decide) ?_
  refine lv_aload_n hx hb dX4_perform_241 rfl (lv_at hl 0 rfl) ?_
  refine r_get hC hw rk4 in_X4_perform_4 3 (wXl 3 (by decide)) wXc3 3 (by decide) lk_X4_perform_31 (v := .ref (ad 5)) rfl dX4_perform_242 ?_
  refine lv_aload_n hx hb dX4_perform_245 rfl (lv_at hl 1 rfl) ?_
  refine r_ki hw (r_runV (rest := []) hC hw 5 (c_X7_weave_32 l _ ρ xa xb xc hd th hst hs hX hm hF hρ g hg) rk7 (wXl 5 (by decide)) wXc5 1 gX4_perform_X7_weave rfl rfl rfl (by decide +kernel) ⟨Nat.le_of_ble_eq_true rfl, Nat.le_of_ble_eq_true rfl⟩ rfl hl.1 rfl (Nat.le_of_ble_eq_true rfl) dX4_perform_246 ⟨show 0 + (4 * g) ≤ 4 * g by omega, show 0 + (44 * g) ≤ 44 * g by omega⟩) (fun r_2 u_3 H locs h_1 hw => ?_)
  exact r_iret hC hr hlk hw (u_3.1, τ, u_3.2) rfl ⟨⟨h_1.1, τ.2.2.1, rfl, fun _ => rfl⟩, h_1.2⟩ (show _ ≤ 4 * g by omega) (show _ ≤ 44 * g by omega) dX4_perform_249

set_option maxHeartbeats 4000000 in
set_option maxRecDepth 100000 in
theorem c_X4_perform_33 (l : Launch) {D : va_G} {q : Nat → ClassId} {ad : Nat → Nat} {κ : KS} {τ : TAU} (sz : Nat) (ρ : Nat) (xa xb xc hd th : Int32) (hst : stepAt q ad κ τ ρ 33 xa xb xc) (hs : okStep 33 xa xb xc)(hX : WFx κ) (hm : vp_in (sI κ 2) 61) (hF : WFa κ τ (aN (sI κ 2))) (hρ : 400 ≤ ρ) (hB : FB κ) (hc6 : ∃ n, n ≤ 12 ∧ sI κ 6 = nI n) (hT : ¬ sI κ 7 < 0) (hhd : hd = sI κ 9) (hth : τ.2.2.2 = rT th) (hthv : ¬ th = 0 → aN (th - 1) < aN (sI κ 2)) (g : Nat) (hg : why κ 33 xa xb xc = 0 → mkN κ 33 xb ≤ g) : Met l yX4_perform wsX4_perform (rmc 4 99 (4 * g) (44 * g)) (va_Pc [.ref (ad 3), .ref (ad ρ)] (rPre D q (wX q ad κ τ) sz)) (va_Qi (fun (r : Int32) (u : KS × TAU × (Nat → Nat)) => ((r, u.1) = doR κ hd th 33 xa xb xc ∧ ∃ v, u.2.1 = (τ.1, τ.2.1, v, τ.2.2.2) ∧ (r = 0 → v = nxt κ 33 xa xb τ.2.2.1)) ∧ ∀ i, lvX κ i → u.2.2 i = ad i) (fun (u : KS × TAU × (Nat → Nat)) tt => rPo D (rA (wX q ad κ τ) sz) (wX q u.2.2 u.1 u.2.1) tt) (rA (wX q ad κ τ) sz)) (4 * g) (44 * g) (rA (wX q ad κ τ) sz) := by
  have hi0 : vp_in xa 8 := hs.1
  have hi1 : vp_in (xb - 11) 4 := hs.2.1
  have hi2 : vp_in xc 8 := hs.2.2
  refine r_start (cc := cX4_perform) (maxL := 2) (ret := (some .int)) (by decide) rfl (Nat.le_of_ble_eq_true rfl) ?_
  intro p e s m below meth c ls hC hr hlk hnm hsz hw hl
  have hx := hC.1
  have hb := hC.2.1
  have hl : lv_has ls 2 [(0, .ref (ad 3)), (1, .ref (ad ρ))] := hl
  refine lv_aload_n hx hb dX4_perform_0 rfl (lv_at hl 1 rfl) ?_
  refine r_get hC hw rk5 in_X4_perform_5 ρ hst.1 hst.2 0 (by decide) lk_X4_perform_95 (v := .int 33) rfl dX4_perform_1 ?_
  refine lv_iconst (v := 1) hx hb dX4_perform_4 (by decide) ?_
  refine lv_icmp_lt (tgt := 26) hx hb dX4_perform_5 (by decide) (fun c_ => absurd c_ (by decide)) (fun _ => ?_)
  refine lv_aload_n hx hb dX4_perform_8 rfl (lv_at hl 1 rfl) ?_
  refine r_get hC hw rk5 in_X4_perform_5 ρ hst.1 hst.2 0 (by decide) lk_X4_perform_95 (v := .int 33) rfl dX4_perform_9 ?_
  refine lv_bipush (v := 26) hx hb dX4_perform_12 (by decide) ?_
  refine lv_icmp_gt (tgt := 26) hx hb dX4_perform_14 (by decide) (fun _ => ?_) (fun c_ => absurd (by decide) c_)
  refine lv_aload_n hx hb dX4_perform_26 rfl (lv_at hl 1 rfl) ?_
  refine r_get hC hw rk5 in_X4_perform_5 ρ hst.1 hst.2 0 (by decide) lk_X4_perform_95 (v := .int 33) rfl dX4_perform_27 ?_
  refine lv_lookup (off := 211) (tgt := 241) hx hb dX4_perform_30 (by decide) (by decide) (by decide) ?_
  refine lv_aload_n hx hb dX4_perform_241 rfl (lv_at hl 0 rfl) ?_
  refine r_get hC hw rk4 in_X4_perform_4 3 (wXl 3 (by decide)) wXc3 3 (by decide) lk_X4_perform_31 (v := .ref (ad 5)) rfl dX4_perform_242 ?_
  refine lv_aload_n hx hb dX4_perform_245 rfl (lv_at hl 1 rfl) ?_
  refine r_ki hw (r_runV (rest := []) hC hw 5 (c_X7_weave_33 l _ ρ xa xb xc hd th hst hs hX hm hF hρ g hg) rk7 (wXl 5 (by decide)) wXc5 1 gX4_perform_X7_weave rfl rfl rfl (by decide +kernel) ⟨Nat.le_of_ble_eq_true rfl, Nat.le_of_ble_eq_true rfl⟩ rfl hl.1 rfl (Nat.le_of_ble_eq_true rfl) dX4_perform_246 ⟨show 0 + (4 * g) ≤ 4 * g by omega, show 0 + (44 * g) ≤ 44 * g by omega⟩) (fun r_2 u_3 H locs h_1 hw => ?_)
  exact r_iret hC hr hlk hw (u_3.1, τ, u_3.2) rfl ⟨⟨h_1.1, τ.2.2.1, rfl, fun _ => rfl⟩, h_1.2⟩ (show _ ≤ 4 * g by omega) (show _ ≤ 44 * g by omega) dX4_perform_249

set_option maxHeartbeats 4000000 in
set_option maxRecDepth 100000 in
theorem c_X4_perform_34 (l : Launch) {D : va_G} {q : Nat → ClassId} {ad : Nat → Nat} {κ : KS} {τ : TAU} (sz : Nat) (ρ : Nat) (xa xb xc hd th : Int32) (hst : stepAt q ad κ τ ρ 34 xa xb xc) (hs : okStep 34 xa xb xc)(hX : WFx κ) (hm : vp_in (sI κ 2) 61) (hF : WFa κ τ (aN (sI κ 2))) (hρ : 400 ≤ ρ) (hB : FB κ) (hc6 : ∃ n, n ≤ 12 ∧ sI κ 6 = nI n) (hT : ¬ sI κ 7 < 0) (hhd : hd = sI κ 9) (hth : τ.2.2.2 = rT th) (hthv : ¬ th = 0 → aN (th - 1) < aN (sI κ 2)) (g : Nat) (hg : why κ 34 xa xb xc = 0 → mkN κ 34 xb ≤ g) : Met l yX4_perform wsX4_perform (rmc 4 99 (4 * g) (44 * g)) (va_Pc [.ref (ad 3), .ref (ad ρ)] (rPre D q (wX q ad κ τ) sz)) (va_Qi (fun (r : Int32) (u : KS × TAU × (Nat → Nat)) => ((r, u.1) = doR κ hd th 34 xa xb xc ∧ ∃ v, u.2.1 = (τ.1, τ.2.1, v, τ.2.2.2) ∧ (r = 0 → v = nxt κ 34 xa xb τ.2.2.1)) ∧ ∀ i, lvX κ i → u.2.2 i = ad i) (fun (u : KS × TAU × (Nat → Nat)) tt => rPo D (rA (wX q ad κ τ) sz) (wX q u.2.2 u.1 u.2.1) tt) (rA (wX q ad κ τ) sz)) (4 * g) (44 * g) (rA (wX q ad κ τ) sz) := by
  have hi0 : vp_in xa 8 := hs.1
  have hi1 : vp_in xb 8 := hs.2.1
  refine r_start (cc := cX4_perform) (maxL := 2) (ret := (some .int)) (by decide) rfl (Nat.le_of_ble_eq_true rfl) ?_
  intro p e s m below meth c ls hC hr hlk hnm hsz hw hl
  have hx := hC.1
  have hb := hC.2.1
  have hl : lv_has ls 2 [(0, .ref (ad 3)), (1, .ref (ad ρ))] := hl
  refine lv_aload_n hx hb dX4_perform_0 rfl (lv_at hl 1 rfl) ?_
  refine r_get hC hw rk5 in_X4_perform_5 ρ hst.1 hst.2 0 (by decide) lk_X4_perform_95 (v := .int 34) rfl dX4_perform_1 ?_
  refine lv_iconst (v := 1) hx hb dX4_perform_4 (by decide) ?_
  refine lv_icmp_lt (tgt := 26) hx hb dX4_perform_5 (by decide) (fun c_ => absurd c_ (by decide)) (fun _ => ?_)
  refine lv_aload_n hx hb dX4_perform_8 rfl (lv_at hl 1 rfl) ?_
  refine r_get hC hw rk5 in_X4_perform_5 ρ hst.1 hst.2 0 (by decide) lk_X4_perform_95 (v := .int 34) rfl dX4_perform_9 ?_
  refine lv_bipush (v := 26) hx hb dX4_perform_12 (by decide) ?_
  refine lv_icmp_gt (tgt := 26) hx hb dX4_perform_14 (by decide) (fun _ => ?_) (fun c_ => absurd (by decide) c_)
  refine lv_aload_n hx hb dX4_perform_26 rfl (lv_at hl 1 rfl) ?_
  refine r_get hC hw rk5 in_X4_perform_5 ρ hst.1 hst.2 0 (by decide) lk_X4_perform_95 (v := .int 34) rfl dX4_perform_27 ?_
  refine lv_lookup (off := 211) (tgt := 241) hx hb dX4_perform_30 (by decide) (by decide) (by decide) ?_
  refine lv_aload_n hx hb dX4_perform_241 rfl (lv_at hl 0 rfl) ?_
  refine r_get hC hw rk4 in_X4_perform_4 3 (wXl 3 (by decide)) wXc3 3 (by decide) lk_X4_perform_31 (v := .ref (ad 5)) rfl dX4_perform_242 ?_
  refine lv_aload_n hx hb dX4_perform_245 rfl (lv_at hl 1 rfl) ?_
  refine r_ki hw (r_runV (rest := []) hC hw 5 (c_X7_weave_34 l _ ρ xa xb xc hd th hst hs hX (nn_FB hB 34 _ _ _ (by decide) (by decide))) rk7 (wXl 5 (by decide)) wXc5 1 gX4_perform_X7_weave rfl rfl rfl (by decide +kernel) ⟨Nat.le_of_ble_eq_true rfl, Nat.le_of_ble_eq_true rfl⟩ rfl hl.1 rfl (Nat.le_of_ble_eq_true rfl) dX4_perform_246 ⟨Nat.le_of_ble_eq_true rfl, Nat.le_of_ble_eq_true rfl⟩) (fun r_2 u_3 H locs h_1 hw => ?_)
  exact r_iret hC hr hlk hw (u_3, τ, ad) rfl ⟨⟨h_1, τ.2.2.1, rfl, fun _ => rfl⟩, fun _ _ => rfl⟩ (show _ ≤ 4 * g by omega) (show _ ≤ 44 * g by omega) dX4_perform_249

set_option maxHeartbeats 4000000 in
set_option maxRecDepth 100000 in
theorem c_X4_perform_35 (l : Launch) {D : va_G} {q : Nat → ClassId} {ad : Nat → Nat} {κ : KS} {τ : TAU} (sz : Nat) (ρ : Nat) (xa xb xc hd th : Int32) (hst : stepAt q ad κ τ ρ 35 xa xb xc) (hs : okStep 35 xa xb xc)(hX : WFx κ) (hm : vp_in (sI κ 2) 61) (hF : WFa κ τ (aN (sI κ 2))) (hρ : 400 ≤ ρ) (hB : FB κ) (hc6 : ∃ n, n ≤ 12 ∧ sI κ 6 = nI n) (hT : ¬ sI κ 7 < 0) (hhd : hd = sI κ 9) (hth : τ.2.2.2 = rT th) (hthv : ¬ th = 0 → aN (th - 1) < aN (sI κ 2)) (g : Nat) (hg : why κ 35 xa xb xc = 0 → mkN κ 35 xb ≤ g) : Met l yX4_perform wsX4_perform (rmc 4 99 (4 * g) (44 * g)) (va_Pc [.ref (ad 3), .ref (ad ρ)] (rPre D q (wX q ad κ τ) sz)) (va_Qi (fun (r : Int32) (u : KS × TAU × (Nat → Nat)) => ((r, u.1) = doR κ hd th 35 xa xb xc ∧ ∃ v, u.2.1 = (τ.1, τ.2.1, v, τ.2.2.2) ∧ (r = 0 → v = nxt κ 35 xa xb τ.2.2.1)) ∧ ∀ i, lvX κ i → u.2.2 i = ad i) (fun (u : KS × TAU × (Nat → Nat)) tt => rPo D (rA (wX q ad κ τ) sz) (wX q u.2.2 u.1 u.2.1) tt) (rA (wX q ad κ τ) sz)) (4 * g) (44 * g) (rA (wX q ad κ τ) sz) := by
  have hi0 : vp_in xa 8 := hs.1
  refine r_start (cc := cX4_perform) (maxL := 2) (ret := (some .int)) (by decide) rfl (Nat.le_of_ble_eq_true rfl) ?_
  intro p e s m below meth c ls hC hr hlk hnm hsz hw hl
  have hx := hC.1
  have hb := hC.2.1
  have hl : lv_has ls 2 [(0, .ref (ad 3)), (1, .ref (ad ρ))] := hl
  refine lv_aload_n hx hb dX4_perform_0 rfl (lv_at hl 1 rfl) ?_
  refine r_get hC hw rk5 in_X4_perform_5 ρ hst.1 hst.2 0 (by decide) lk_X4_perform_95 (v := .int 35) rfl dX4_perform_1 ?_
  refine lv_iconst (v := 1) hx hb dX4_perform_4 (by decide) ?_
  refine lv_icmp_lt (tgt := 26) hx hb dX4_perform_5 (by decide) (fun c_ => absurd c_ (by decide)) (fun _ => ?_)
  refine lv_aload_n hx hb dX4_perform_8 rfl (lv_at hl 1 rfl) ?_
  refine r_get hC hw rk5 in_X4_perform_5 ρ hst.1 hst.2 0 (by decide) lk_X4_perform_95 (v := .int 35) rfl dX4_perform_9 ?_
  refine lv_bipush (v := 26) hx hb dX4_perform_12 (by decide) ?_
  refine lv_icmp_gt (tgt := 26) hx hb dX4_perform_14 (by decide) (fun _ => ?_) (fun c_ => absurd (by decide) c_)
  refine lv_aload_n hx hb dX4_perform_26 rfl (lv_at hl 1 rfl) ?_
  refine r_get hC hw rk5 in_X4_perform_5 ρ hst.1 hst.2 0 (by decide) lk_X4_perform_95 (v := .int 35) rfl dX4_perform_27 ?_
  refine lv_lookup (off := 211) (tgt := 241) hx hb dX4_perform_30 (by decide) (by decide) (by decide) ?_
  refine lv_aload_n hx hb dX4_perform_241 rfl (lv_at hl 0 rfl) ?_
  refine r_get hC hw rk4 in_X4_perform_4 3 (wXl 3 (by decide)) wXc3 3 (by decide) lk_X4_perform_31 (v := .ref (ad 5)) rfl dX4_perform_242 ?_
  refine lv_aload_n hx hb dX4_perform_245 rfl (lv_at hl 1 rfl) ?_
  refine r_ki hw (r_runV (rest := []) hC hw 5 (c_X7_weave_35 l _ ρ xa xb xc hd th hst hs hX (nn_FB hB 35 _ _ _ (by decide) (by decide))) rk7 (wXl 5 (by decide)) wXc5 1 gX4_perform_X7_weave rfl rfl rfl (by decide +kernel) ⟨Nat.le_of_ble_eq_true rfl, Nat.le_of_ble_eq_true rfl⟩ rfl hl.1 rfl (Nat.le_of_ble_eq_true rfl) dX4_perform_246 ⟨Nat.le_of_ble_eq_true rfl, Nat.le_of_ble_eq_true rfl⟩) (fun r_2 u_3 H locs h_1 hw => ?_)
  exact r_iret hC hr hlk hw (u_3, τ, ad) rfl ⟨⟨h_1, τ.2.2.1, rfl, fun _ => rfl⟩, fun _ _ => rfl⟩ (show _ ≤ 4 * g by omega) (show _ ≤ 44 * g by omega) dX4_perform_249

set_option maxHeartbeats 4000000 in
set_option maxRecDepth 100000 in
theorem c_X4_perform_36 (l : Launch) {D : va_G} {q : Nat → ClassId} {ad : Nat → Nat} {κ : KS} {τ : TAU} (sz : Nat) (ρ : Nat) (xa xb xc hd th : Int32) (hst : stepAt q ad κ τ ρ 36 xa xb xc) (hs : okStep 36 xa xb xc)(hX : WFx κ) (hm : vp_in (sI κ 2) 61) (hF : WFa κ τ (aN (sI κ 2))) (hρ : 400 ≤ ρ) (hB : FB κ) (hc6 : ∃ n, n ≤ 12 ∧ sI κ 6 = nI n) (hT : ¬ sI κ 7 < 0) (hhd : hd = sI κ 9) (hth : τ.2.2.2 = rT th) (hthv : ¬ th = 0 → aN (th - 1) < aN (sI κ 2)) (g : Nat) (hg : why κ 36 xa xb xc = 0 → mkN κ 36 xb ≤ g) : Met l yX4_perform wsX4_perform (rmc 4 99 (4 * g) (44 * g)) (va_Pc [.ref (ad 3), .ref (ad ρ)] (rPre D q (wX q ad κ τ) sz)) (va_Qi (fun (r : Int32) (u : KS × TAU × (Nat → Nat)) => ((r, u.1) = doR κ hd th 36 xa xb xc ∧ ∃ v, u.2.1 = (τ.1, τ.2.1, v, τ.2.2.2) ∧ (r = 0 → v = nxt κ 36 xa xb τ.2.2.1)) ∧ ∀ i, lvX κ i → u.2.2 i = ad i) (fun (u : KS × TAU × (Nat → Nat)) tt => rPo D (rA (wX q ad κ τ) sz) (wX q u.2.2 u.1 u.2.1) tt) (rA (wX q ad κ τ) sz)) (4 * g) (44 * g) (rA (wX q ad κ τ) sz) := by
  have hi0 : vp_in xa 8 := hs.1
  have hi1 : vp_in xb 8 := hs.2.1
  have hi2 : vp_in xc 8 := hs.2.2
  refine r_start (cc := cX4_perform) (maxL := 2) (ret := (some .int)) (by decide) rfl (Nat.le_of_ble_eq_true rfl) ?_
  intro p e s m below meth c ls hC hr hlk hnm hsz hw hl
  have hx := hC.1
  have hb := hC.2.1
  have hl : lv_has ls 2 [(0, .ref (ad 3)), (1, .ref (ad ρ))] := hl
  refine lv_aload_n hx hb dX4_perform_0 rfl (lv_at hl 1 rfl) ?_
  refine r_get hC hw rk5 in_X4_perform_5 ρ hst.1 hst.2 0 (by decide) lk_X4_perform_95 (v := .int 36) rfl dX4_perform_1 ?_
  refine lv_iconst (v := 1) hx hb dX4_perform_4 (by decide) ?_
  refine lv_icmp_lt (tgt := 26) hx hb dX4_perform_5 (by decide) (fun c_ => absurd c_ (by decide)) (fun _ => ?_)
  refine lv_aload_n hx hb dX4_perform_8 rfl (lv_at hl 1 rfl) ?_
  refine r_get hC hw rk5 in_X4_perform_5 ρ hst.1 hst.2 0 (by decide) lk_X4_perform_95 (v := .int 36) rfl dX4_perform_9 ?_
  refine lv_bipush (v := 26) hx hb dX4_perform_12 (by decide) ?_
  refine lv_icmp_gt (tgt := 26) hx hb dX4_perform_14 (by decide) (fun _ => ?_) (fun c_ => absurd (by decide) c_)
  refine lv_aload_n hx hb dX4_perform_26 rfl (lv_at hl 1 rfl) ?_
  refine r_get hC hw rk5 in_X4_perform_5 ρ hst.1 hst.2 0 (by decide) lk_X4_perform_95 (v := .int 36) rfl dX4_perform_27 ?_
  refine lv_lookup (off := 211) (tgt := 241) hx hb dX4_perform_30 (by decide) (by decide) (by decide) ?_
  refine lv_aload_n hx hb dX4_perform_241 rfl (lv_at hl 0 rfl) ?_
  refine r_get hC hw rk4 in_X4_perform_4 3 (wXl 3 (by decide)) wXc3 3 (by decide) lk_X4_perform_31 (v := .ref (ad 5)) rfl dX4_perform_242 ?_
  refine lv_aload_n hx hb dX4_perform_245 rfl (lv_at hl 1 rfl) ?_
  refine r_ki hw (r_runV (rest := []) hC hw 5 (c_X7_weave_36 l _ ρ xa xb xc hd th hst hs hX (nn_FB hB 36 _ _ _ (by decide) (by decide))) rk7 (wXl 5 (by decide)) wXc5 1 gX4_perform_X7_weave rfl rfl rfl (by decide +kernel) ⟨Nat.le_of_ble_eq_true rfl, Nat.le_of_ble_eq_true rfl⟩ rfl hl.1 rfl (Nat.le_of_ble_eq_true rfl) dX4_perform_246 ⟨Nat.le_of_ble_eq_true rfl, Nat.le_of_ble_eq_true rfl⟩) (fun r_2 u_3 H locs h_1 hw => ?_)
  exact r_iret hC hr hlk hw (u_3, τ, ad) rfl ⟨⟨h_1, τ.2.2.1, rfl, fun _ => rfl⟩, fun _ _ => rfl⟩ (show _ ≤ 4 * g by omega) (show _ ≤ 44 * g by omega) dX4_perform_249

set_option maxHeartbeats 4000000 in
set_option maxRecDepth 100000 in
theorem c_X4_perform_37 (l : Launch) {D : va_G} {q : Nat → ClassId} {ad : Nat → Nat} {κ : KS} {τ : TAU} (sz : Nat) (ρ : Nat) (xa xb xc hd th : Int32) (hst : stepAt q ad κ τ ρ 37 xa xb xc) (hs : okStep 37 xa xb xc)(hX : WFx κ) (hm : vp_in (sI κ 2) 61) (hF : WFa κ τ (aN (sI κ 2))) (hρ : 400 ≤ ρ) (hB : FB κ) (hc6 : ∃ n, n ≤ 12 ∧ sI κ 6 = nI n) (hT : ¬ sI κ 7 < 0) (hhd : hd = sI κ 9) (hth : τ.2.2.2 = rT th) (hthv : ¬ th = 0 → aN (th - 1) < aN (sI κ 2)) (g : Nat) (hg : why κ 37 xa xb xc = 0 → mkN κ 37 xb ≤ g) : Met l yX4_perform wsX4_perform (rmc 4 99 (4 * g) (44 * g)) (va_Pc [.ref (ad 3), .ref (ad ρ)] (rPre D q (wX q ad κ τ) sz)) (va_Qi (fun (r : Int32) (u : KS × TAU × (Nat → Nat)) => ((r, u.1) = doR κ hd th 37 xa xb xc ∧ ∃ v, u.2.1 = (τ.1, τ.2.1, v, τ.2.2.2) ∧ (r = 0 → v = nxt κ 37 xa xb τ.2.2.1)) ∧ ∀ i, lvX κ i → u.2.2 i = ad i) (fun (u : KS × TAU × (Nat → Nat)) tt => rPo D (rA (wX q ad κ τ) sz) (wX q u.2.2 u.1 u.2.1) tt) (rA (wX q ad κ τ) sz)) (4 * g) (44 * g) (rA (wX q ad κ τ) sz) := by
  have hi0 : vp_in xa 8 := hs.1
  have hi1 : vp_in xb 8 := hs.2.1
  have hi2 : vp_in xc 17 := hs.2.2
  refine r_start (cc := cX4_perform) (maxL := 2) (ret := (some .int)) (by decide) rfl (Nat.le_of_ble_eq_true rfl) ?_
  intro p e s m below meth c ls hC hr hlk hnm hsz hw hl
  have hx := hC.1
  have hb := hC.2.1
  have hl : lv_has ls 2 [(0, .ref (ad 3)), (1, .ref (ad ρ))] := hl
  refine lv_aload_n hx hb dX4_perform_0 rfl (lv_at hl 1 rfl) ?_
  refine r_get hC hw rk5 in_X4_perform_5 ρ hst.1 hst.2 0 (by decide) lk_X4_perform_95 (v := .int 37) rfl dX4_perform_1 ?_
  refine lv_iconst (v := 1) hx hb dX4_perform_4 (by decide) ?_
  refine lv_icmp_lt (tgt := 26) hx hb dX4_perform_5 (by decide) (fun c_ => absurd c_ (by decide)) (fun _ => ?_)
  refine lv_aload_n hx hb dX4_perform_8 rfl (lv_at hl 1 rfl) ?_
  refine r_get hC hw rk5 in_X4_perform_5 ρ hst.1 hst.2 0 (by decide) lk_X4_perform_95 (v := .int 37) rfl dX4_perform_9 ?_
  refine lv_bipush (v := 26) hx hb dX4_perform_12 (by decide) ?_
  refine lv_icmp_gt (tgt := 26) hx hb dX4_perform_14 (by decide) (fun _ => ?_) (fun c_ => absurd (by decide) c_)
  refine lv_aload_n hx hb dX4_perform_26 rfl (lv_at hl 1 rfl) ?_
  refine r_get hC hw rk5 in_X4_perform_5 ρ hst.1 hst.2 0 (by decide) lk_X4_perform_95 (v := .int 37) rfl dX4_perform_27 ?_
  refine lv_lookup (off := 211) (tgt := 241) hx hb dX4_perform_30 (by decide) (by decide) (by decide) ?_
  refine lv_aload_n hx hb dX4_perform_241 rfl (lv_at hl 0 rfl) ?_
  refine r_get hC hw rk4 in_X4_perform_4 3 (wXl 3 (by decide)) wXc3 3 (by decide) lk_X4_perform_31 (v := .ref (ad 5)) rfl dX4_perform_242 ?_
  refine lv_aload_n hx hb dX4_perform_245 rfl (lv_at hl 1 rfl) ?_
  refine r_ki hw (r_runV (rest := []) hC hw 5 (c_X7_weave_37 l _ ρ xa xb xc hd th hst hs hX (nn_FB hB 37 _ _ _ (by decide) (by decide))) rk7 (wXl 5 (by decide)) wXc5 1 gX4_perform_X7_weave rfl rfl rfl (by decide +kernel) ⟨Nat.le_of_ble_eq_true rfl, Nat.le_of_ble_eq_true rfl⟩ rfl hl.1 rfl (Nat.le_of_ble_eq_true rfl) dX4_perform_246 ⟨Nat.le_of_ble_eq_true rfl, Nat.le_of_ble_eq_true rfl⟩) (fun r_2 u_3 H locs h_1 hw => ?_)
  exact r_iret hC hr hlk hw (u_3, τ, ad) rfl ⟨⟨h_1, τ.2.2.1, rfl, fun _ => rfl⟩, fun _ _ => rfl⟩ (show _ ≤ 4 * g by omega) (show _ ≤ 44 * g by omega) dX4_perform_249

set_option maxHeartbeats 4000000 in
set_option maxRecDepth 100000 in
theorem c_X4_perform_38 (l : Launch) {D : va_G} {q : Nat → ClassId} {ad : Nat → Nat} {κ : KS} {τ : TAU} (sz : Nat) (ρ : Nat) (xa xb xc hd th : Int32) (hst : stepAt q ad κ τ ρ 38 xa xb xc) (hs : okStep 38 xa xb xc)(hX : WFx κ) (hm : vp_in (sI κ 2) 61) (hF : WFa κ τ (aN (sI κ 2))) (hρ : 400 ≤ ρ) (hB : FB κ) (hc6 : ∃ n, n ≤ 12 ∧ sI κ 6 = nI n) (hT : ¬ sI κ 7 < 0) (hhd : hd = sI κ 9) (hth : τ.2.2.2 = rT th) (hthv : ¬ th = 0 → aN (th - 1) < aN (sI κ 2)) (g : Nat) (hg : why κ 38 xa xb xc = 0 → mkN κ 38 xb ≤ g) : Met l yX4_perform wsX4_perform (rmc 4 99 (4 * g) (44 * g)) (va_Pc [.ref (ad 3), .ref (ad ρ)] (rPre D q (wX q ad κ τ) sz)) (va_Qi (fun (r : Int32) (u : KS × TAU × (Nat → Nat)) => ((r, u.1) = doR κ hd th 38 xa xb xc ∧ ∃ v, u.2.1 = (τ.1, τ.2.1, v, τ.2.2.2) ∧ (r = 0 → v = nxt κ 38 xa xb τ.2.2.1)) ∧ ∀ i, lvX κ i → u.2.2 i = ad i) (fun (u : KS × TAU × (Nat → Nat)) tt => rPo D (rA (wX q ad κ τ) sz) (wX q u.2.2 u.1 u.2.1) tt) (rA (wX q ad κ τ) sz)) (4 * g) (44 * g) (rA (wX q ad κ τ) sz) := by
  have hi0 : vp_in xa 8 := hs.1
  have hi1 : vp_in xb 8 := hs.2.1
  refine r_start (cc := cX4_perform) (maxL := 2) (ret := (some .int)) (by decide) rfl (Nat.le_of_ble_eq_true rfl) ?_
  intro p e s m below meth c ls hC hr hlk hnm hsz hw hl
  have hx := hC.1
  have hb := hC.2.1
  have hl : lv_has ls 2 [(0, .ref (ad 3)), (1, .ref (ad ρ))] := hl
  refine lv_aload_n hx hb dX4_perform_0 rfl (lv_at hl 1 rfl) ?_
  refine r_get hC hw rk5 in_X4_perform_5 ρ hst.1 hst.2 0 (by decide) lk_X4_perform_95 (v := .int 38) rfl dX4_perform_1 ?_
  refine lv_iconst (v := 1) hx hb dX4_perform_4 (by decide) ?_
  refine lv_icmp_lt (tgt := 26) hx hb dX4_perform_5 (by decide) (fun c_ => absurd c_ (by decide)) (fun _ => ?_)
  refine lv_aload_n hx hb dX4_perform_8 rfl (lv_at hl 1 rfl) ?_
  refine r_get hC hw rk5 in_X4_perform_5 ρ hst.1 hst.2 0 (by decide) lk_X4_perform_95 (v := .int 38) rfl dX4_perform_9 ?_
  refine lv_bipush (v := 26) hx hb dX4_perform_12 (by decide) ?_
  refine lv_icmp_gt (tgt := 26) hx hb dX4_perform_14 (by decide) (fun _ => ?_) (fun c_ => absurd (by decide) c_)
  refine lv_aload_n hx hb dX4_perform_26 rfl (lv_at hl 1 rfl) ?_
  refine r_get hC hw rk5 in_X4_perform_5 ρ hst.1 hst.2 0 (by decide) lk_X4_perform_95 (v := .int 38) rfl dX4_perform_27 ?_
  refine lv_lookup (off := 211) (tgt := 241) hx hb dX4_perform_30 (by decide) (by decide) (by decide) ?_
  refine lv_aload_n hx hb dX4_perform_241 rfl (lv_at hl 0 rfl) ?_
  refine r_get hC hw rk4 in_X4_perform_4 3 (wXl 3 (by decide)) wXc3 3 (by decide) lk_X4_perform_31 (v := .ref (ad 5)) rfl dX4_perform_242 ?_
  refine lv_aload_n hx hb dX4_perform_245 rfl (lv_at hl 1 rfl) ?_
  refine r_ki hw (r_runV (rest := []) hC hw 5 (c_X7_weave_38 l _ ρ xa xb xc hd th hst hs hX (nn_FB hB 38 _ _ _ (by decide) (by decide))) rk7 (wXl 5 (by decide)) wXc5 1 gX4_perform_X7_weave rfl rfl rfl (by decide +kernel) ⟨Nat.le_of_ble_eq_true rfl, Nat.le_of_ble_eq_true rfl⟩ rfl hl.1 rfl (Nat.le_of_ble_eq_true rfl) dX4_perform_246 ⟨Nat.le_of_ble_eq_true rfl, Nat.le_of_ble_eq_true rfl⟩) (fun r_2 u_3 H locs h_1 hw => ?_)
  exact r_iret hC hr hlk hw (u_3, τ, ad) rfl ⟨⟨h_1, τ.2.2.1, rfl, fun _ => rfl⟩, fun _ _ => rfl⟩ (show _ ≤ 4 * g by omega) (show _ ≤ 44 * g by omega) dX4_perform_249

set_option maxHeartbeats 4000000 in
set_option maxRecDepth 100000 in
theorem c_X4_perform_39 (l : Launch) {D : va_G} {q : Nat → ClassId} {ad : Nat → Nat} {κ : KS} {τ : TAU} (sz : Nat) (ρ : Nat) (xa xb xc hd th : Int32) (hst : stepAt q ad κ τ ρ 39 xa xb xc) (hs : okStep 39 xa xb xc)(hX : WFx κ) (hm : vp_in (sI κ 2) 61) (hF : WFa κ τ (aN (sI κ 2))) (hρ : 400 ≤ ρ) (hB : FB κ) (hc6 : ∃ n, n ≤ 12 ∧ sI κ 6 = nI n) (hT : ¬ sI κ 7 < 0) (hhd : hd = sI κ 9) (hth : τ.2.2.2 = rT th) (hthv : ¬ th = 0 → aN (th - 1) < aN (sI κ 2)) (g : Nat) (hg : why κ 39 xa xb xc = 0 → mkN κ 39 xb ≤ g) : Met l yX4_perform wsX4_perform (rmc 4 99 (4 * g) (44 * g)) (va_Pc [.ref (ad 3), .ref (ad ρ)] (rPre D q (wX q ad κ τ) sz)) (va_Qi (fun (r : Int32) (u : KS × TAU × (Nat → Nat)) => ((r, u.1) = doR κ hd th 39 xa xb xc ∧ ∃ v, u.2.1 = (τ.1, τ.2.1, v, τ.2.2.2) ∧ (r = 0 → v = nxt κ 39 xa xb τ.2.2.1)) ∧ ∀ i, lvX κ i → u.2.2 i = ad i) (fun (u : KS × TAU × (Nat → Nat)) tt => rPo D (rA (wX q ad κ τ) sz) (wX q u.2.2 u.1 u.2.1) tt) (rA (wX q ad κ τ) sz)) (4 * g) (44 * g) (rA (wX q ad κ τ) sz) := by
  have hi0 : vp_in xa 8 := hs.1
  have hi1 : vp_in xb 8 := hs.2.1
  have hi2 : vp_in xc 8 := hs.2.2
  refine r_start (cc := cX4_perform) (maxL := 2) (ret := (some .int)) (by decide) rfl (Nat.le_of_ble_eq_true rfl) ?_
  intro p e s m below meth c ls hC hr hlk hnm hsz hw hl
  have hx := hC.1
  have hb := hC.2.1
  have hl : lv_has ls 2 [(0, .ref (ad 3)), (1, .ref (ad ρ))] := hl
  refine lv_aload_n hx hb dX4_perform_0 rfl (lv_at hl 1 rfl) ?_
  refine r_get hC hw rk5 in_X4_perform_5 ρ hst.1 hst.2 0 (by decide) lk_X4_perform_95 (v := .int 39) rfl dX4_perform_1 ?_
  refine lv_iconst (v := 1) hx hb dX4_perform_4 (by decide) ?_
  refine lv_icmp_lt (tgt := 26) hx hb dX4_perform_5 (by decide) (fun c_ => absurd c_ (by decide)) (fun _ => ?_)
  refine lv_aload_n hx hb dX4_perform_8 rfl (lv_at hl 1 rfl) ?_
  refine r_get hC hw rk5 in_X4_perform_5 ρ hst.1 hst.2 0 (by decide) lk_X4_perform_95 (v := .int 39) rfl dX4_perform_9 ?_
  refine lv_bipush (v := 26) hx hb dX4_perform_12 (by decide) ?_
  refine lv_icmp_gt (tgt := 26) hx hb dX4_perform_14 (by decide) (fun _ => ?_) (fun c_ => absurd (by decide) c_)
  refine lv_aload_n hx hb dX4_perform_26 rfl (lv_at hl 1 rfl) ?_
  refine r_get hC hw rk5 in_X4_perform_5 ρ hst.1 hst.2 0 (by decide) lk_X4_perform_95 (v := .int 39) rfl dX4_perform_27 ?_
  refine lv_lookup (off := 211) (tgt := 241) hx hb dX4_perform_30 (by decide) (by decide) (by decide) ?_
  refine lv_aload_n hx hb dX4_perform_241 rfl (lv_at hl 0 rfl) ?_
  refine r_get hC hw rk4 in_X4_perform_4 3 (wXl 3 (by decide)) wXc3 3 (by decide) lk_X4_perform_31 (v := .ref (ad 5)) rfl dX4_perform_242 ?_
  refine lv_aload_n hx hb dX4_perform_245 rfl (lv_at hl 1 rfl) ?_
  refine r_ki hw (r_runV (rest := []) hC hw 5 (c_X7_weave_39 l _ ρ xa xb xc hd th hst hs hX (nn_FB hB 39 _ _ _ (by decide) (by decide))) rk7 (wXl 5 (by decide)) wXc5 1 gX4_perform_X7_weave rfl rfl rfl (by decide +kernel) ⟨Nat.le_of_ble_eq_true rfl, Nat.le_of_ble_eq_true rfl⟩ rfl hl.1 rfl (Nat.le_of_ble_eq_true rfl) dX4_perform_246 ⟨Nat.le_of_ble_eq_true rfl, Nat.le_of_ble_eq_true rfl⟩) (fun r_2 u_3 H locs h_1 hw => ?_)
  exact r_iret hC hr hlk hw (u_3, τ, ad) rfl ⟨⟨h_1, τ.2.2.1, rfl, fun _ => rfl⟩, fun _ _ => rfl⟩ (show _ ≤ 4 * g by omega) (show _ ≤ 44 * g by omega) dX4_perform_249

set_option maxHeartbeats 4000000 in
set_option maxRecDepth 100000 in
theorem c_X4_perform_40 (l : Launch) {D : va_G} {q : Nat → ClassId} {ad : Nat → Nat} {κ : KS} {τ : TAU} (sz : Nat) (ρ : Nat) (xa xb xc hd th : Int32) (hst : stepAt q ad κ τ ρ 40 xa xb xc) (hs : okStep 40 xa xb xc)(hX : WFx κ) (hm : vp_in (sI κ 2) 61) (hF : WFa κ τ (aN (sI κ 2))) (hρ : 400 ≤ ρ) (hB : FB κ) (hc6 : ∃ n, n ≤ 12 ∧ sI κ 6 = nI n) (hT : ¬ sI κ 7 < 0) (hhd : hd = sI κ 9) (hth : τ.2.2.2 = rT th) (hthv : ¬ th = 0 → aN (th - 1) < aN (sI κ 2)) (g : Nat) (hg : why κ 40 xa xb xc = 0 → mkN κ 40 xb ≤ g) : Met l yX4_perform wsX4_perform (rmc 4 99 (4 * g) (44 * g)) (va_Pc [.ref (ad 3), .ref (ad ρ)] (rPre D q (wX q ad κ τ) sz)) (va_Qi (fun (r : Int32) (u : KS × TAU × (Nat → Nat)) => ((r, u.1) = doR κ hd th 40 xa xb xc ∧ ∃ v, u.2.1 = (τ.1, τ.2.1, v, τ.2.2.2) ∧ (r = 0 → v = nxt κ 40 xa xb τ.2.2.1)) ∧ ∀ i, lvX κ i → u.2.2 i = ad i) (fun (u : KS × TAU × (Nat → Nat)) tt => rPo D (rA (wX q ad κ τ) sz) (wX q u.2.2 u.1 u.2.1) tt) (rA (wX q ad κ τ) sz)) (4 * g) (44 * g) (rA (wX q ad κ τ) sz) := by
  have hi0 : vp_in xa 8 := hs.1
  have hi1 : vp_in xb 8 := hs.2.1
  have hi2 : vp_in xc 8 := hs.2.2
  refine r_start (cc := cX4_perform) (maxL := 2) (ret := (some .int)) (by decide) rfl (Nat.le_of_ble_eq_true rfl) ?_
  intro p e s m below meth c ls hC hr hlk hnm hsz hw hl
  have hx := hC.1
  have hb := hC.2.1
  have hl : lv_has ls 2 [(0, .ref (ad 3)), (1, .ref (ad ρ))] := hl
  refine lv_aload_n hx hb dX4_perform_0 rfl (lv_at hl 1 rfl) ?_
  refine r_get hC hw rk5 in_X4_perform_5 ρ hst.1 hst.2 0 (by decide) lk_X4_perform_95 (v := .int 40) rfl dX4_perform_1 ?_
  refine lv_iconst (v := 1) hx hb dX4_perform_4 (by decide) ?_
  refine lv_icmp_lt (tgt := 26) hx hb dX4_perform_5 (by decide) (fun c_ => absurd c_ (by decide)) (fun _ => ?_)
  refine lv_aload_n hx hb dX4_perform_8 rfl (lv_at hl 1 rfl) ?_
  refine r_get hC hw rk5 in_X4_perform_5 ρ hst.1 hst.2 0 (by decide) lk_X4_perform_95 (v := .int 40) rfl dX4_perform_9 ?_
  refine lv_bipush (v := 26) hx hb dX4_perform_12 (by decide) ?_
  refine lv_icmp_gt (tgt := 26) hx hb dX4_perform_14 (by decide) (fun _ => ?_) (fun c_ => absurd (by decide) c_)
  refine lv_aload_n hx hb dX4_perform_26 rfl (lv_at hl 1 rfl) ?_
  refine r_get hC hw rk5 in_X4_perform_5 ρ hst.1 hst.2 0 (by decide) lk_X4_perform_95 (v := .int 40) rfl dX4_perform_27 ?_
  refine lv_lookup (off := 211) (tgt := 241) hx hb dX4_perform_30 (by decide) (by decide) (by decide) ?_
  refine lv_aload_n hx hb dX4_perform_241 rfl (lv_at hl 0 rfl) ?_
  refine r_get hC hw rk4 in_X4_perform_4 3 (wXl 3 (by decide)) wXc3 3 (by decide) lk_X4_perform_31 (v := .ref (ad 5)) rfl dX4_perform_242 ?_
  refine lv_aload_n hx hb dX4_perform_245 rfl (lv_at hl 1 rfl) ?_
  refine r_ki hw (r_runV (rest := []) hC hw 5 (c_X7_weave_40 l _ ρ xa xb xc hd th hst hs hX (nn_FB hB 40 _ _ _ (by decide) (by decide))) rk7 (wXl 5 (by decide)) wXc5 1 gX4_perform_X7_weave rfl rfl rfl (by decide +kernel) ⟨Nat.le_of_ble_eq_true rfl, Nat.le_of_ble_eq_true rfl⟩ rfl hl.1 rfl (Nat.le_of_ble_eq_true rfl) dX4_perform_246 ⟨Nat.le_of_ble_eq_true rfl, Nat.le_of_ble_eq_true rfl⟩) (fun r_2 u_3 H locs h_1 hw => ?_)
  exact r_iret hC hr hlk hw (u_3, τ, ad) rfl ⟨⟨h_1, τ.2.2.1, rfl, fun _ => rfl⟩, fun _ _ => rfl⟩ (show _ ≤ 4 * g by omega) (show _ ≤ 44 * g by omega) dX4_perform_249

set_option maxHeartbeats 4000000 in
set_option maxRecDepth 100000 in
theorem c_X4_perform_41 (l : Launch) {D : va_G} {q : Nat → ClassId} {ad : Nat → Nat} {κ : KS} {τ : TAU} (sz : Nat) (ρ : Nat) (xa xb xc hd th : Int32) (hst : stepAt q ad κ τ ρ 41 xa xb xc) (hs : okStep 41 xa xb xc)(hX : WFx κ) (hm : vp_in (sI κ 2) 61) (hF : WFa κ τ (aN (sI κ 2))) (hρ : 400 ≤ ρ) (hB : FB κ) (hc6 : ∃ n, n ≤ 12 ∧ sI κ 6 = nI n) (hT : ¬ sI κ 7 < 0) (hhd : hd = sI κ 9) (hth : τ.2.2.2 = rT th) (hthv : ¬ th = 0 → aN (th - 1) < aN (sI κ 2)) (g : Nat) (hg : why κ 41 xa xb xc = 0 → mkN κ 41 xb ≤ g) : Met l yX4_perform wsX4_perform (rmc 4 99 (4 * g) (44 * g)) (va_Pc [.ref (ad 3), .ref (ad ρ)] (rPre D q (wX q ad κ τ) sz)) (va_Qi (fun (r : Int32) (u : KS × TAU × (Nat → Nat)) => ((r, u.1) = doR κ hd th 41 xa xb xc ∧ ∃ v, u.2.1 = (τ.1, τ.2.1, v, τ.2.2.2) ∧ (r = 0 → v = nxt κ 41 xa xb τ.2.2.1)) ∧ ∀ i, lvX κ i → u.2.2 i = ad i) (fun (u : KS × TAU × (Nat → Nat)) tt => rPo D (rA (wX q ad κ τ) sz) (wX q u.2.2 u.1 u.2.1) tt) (rA (wX q ad κ τ) sz)) (4 * g) (44 * g) (rA (wX q ad κ τ) sz) := by
  have hi0 : vp_in xa 8 := hs.1
  have hi1 : vp_in xb 8 := hs.2.1
  have hi2 : vp_in xc 8 := hs.2.2
  refine r_start (cc := cX4_perform) (maxL := 2) (ret := (some .int)) (by decide) rfl (Nat.le_of_ble_eq_true rfl) ?_
  intro p e s m below meth c ls hC hr hlk hnm hsz hw hl
  have hx := hC.1
  have hb := hC.2.1
  have hl : lv_has ls 2 [(0, .ref (ad 3)), (1, .ref (ad ρ))] := hl
  refine lv_aload_n hx hb dX4_perform_0 rfl (lv_at hl 1 rfl) ?_
  refine r_get hC hw rk5 in_X4_perform_5 ρ hst.1 hst.2 0 (by decide) lk_X4_perform_95 (v := .int 41) rfl dX4_perform_1 ?_
  refine lv_iconst (v := 1) hx hb dX4_perform_4 (by decide) ?_
  refine lv_icmp_lt (tgt := 26) hx hb dX4_perform_5 (by decide) (fun c_ => absurd c_ (by decide)) (fun _ => ?_)
  refine lv_aload_n hx hb dX4_perform_8 rfl (lv_at hl 1 rfl) ?_
  refine r_get hC hw rk5 in_X4_perform_5 ρ hst.1 hst.2 0 (by decide) lk_X4_perform_95 (v := .int 41) rfl dX4_perform_9 ?_
  refine lv_bipush (v := 26) hx hb dX4_perform_12 (by decide) ?_
  refine lv_icmp_gt (tgt := 26) hx hb dX4_perform_14 (by decide) (fun _ => ?_) (fun c_ => absurd (by decide) c_)
  refine lv_aload_n hx hb dX4_perform_26 rfl (lv_at hl 1 rfl) ?_
  refine r_get hC hw rk5 in_X4_perform_5 ρ hst.1 hst.2 0 (by decide) lk_X4_perform_95 (v := .int 41) rfl dX4_perform_27 ?_
  refine lv_lookup (off := 211) (tgt := 241) hx hb dX4_perform_30 (by decide) (by decide) (by decide) ?_
  refine lv_aload_n hx hb dX4_perform_241 rfl (lv_at hl 0 rfl) ?_
  refine r_get hC hw rk4 in_X4_perform_4 3 (wXl 3 (by decide)) wXc3 3 (by decide) lk_X4_perform_31 (v := .ref (ad 5)) rfl dX4_perform_242 ?_
  refine lv_aload_n hx hb dX4_perform_245 rfl (lv_at hl 1 rfl) ?_
  refine r_ki hw (r_runV (rest := []) hC hw 5 (c_X7_weave_41 l _ ρ xa xb xc hd th hst hs hX (nn_FB hB 41 _ _ _ (by decide) (by decide))) rk7 (wXl 5 (by decide)) wXc5 1 gX4_perform_X7_weave rfl rfl rfl (by decide +kernel) ⟨Nat.le_of_ble_eq_true rfl, Nat.le_of_ble_eq_true rfl⟩ rfl hl.1 rfl (Nat.le_of_ble_eq_true rfl) dX4_perform_246 ⟨Nat.le_of_ble_eq_true rfl, Nat.le_of_ble_eq_true rfl⟩) (fun r_2 u_3 H locs h_1 hw => ?_)
  exact r_iret hC hr hlk hw (u_3, τ, ad) rfl ⟨⟨h_1, τ.2.2.1, rfl, fun _ => rfl⟩, fun _ _ => rfl⟩ (show _ ≤ 4 * g by omega) (show _ ≤ 44 * g by omega) dX4_perform_249

set_option maxHeartbeats 4000000 in
set_option maxRecDepth 100000 in
theorem c_X4_perform_42 (l : Launch) {D : va_G} {q : Nat → ClassId} {ad : Nat → Nat} {κ : KS} {τ : TAU} (sz : Nat) (ρ : Nat) (xa xb xc hd th : Int32) (hst : stepAt q ad κ τ ρ 42 xa xb xc) (hs : okStep 42 xa xb xc)(hX : WFx κ) (hm : vp_in (sI κ 2) 61) (hF : WFa κ τ (aN (sI κ 2))) (hρ : 400 ≤ ρ) (hB : FB κ) (hc6 : ∃ n, n ≤ 12 ∧ sI κ 6 = nI n) (hT : ¬ sI κ 7 < 0) (hhd : hd = sI κ 9) (hth : τ.2.2.2 = rT th) (hthv : ¬ th = 0 → aN (th - 1) < aN (sI κ 2)) (g : Nat) (hg : why κ 42 xa xb xc = 0 → mkN κ 42 xb ≤ g) : Met l yX4_perform wsX4_perform (rmc 4 99 (4 * g) (44 * g)) (va_Pc [.ref (ad 3), .ref (ad ρ)] (rPre D q (wX q ad κ τ) sz)) (va_Qi (fun (r : Int32) (u : KS × TAU × (Nat → Nat)) => ((r, u.1) = doR κ hd th 42 xa xb xc ∧ ∃ v, u.2.1 = (τ.1, τ.2.1, v, τ.2.2.2) ∧ (r = 0 → v = nxt κ 42 xa xb τ.2.2.1)) ∧ ∀ i, lvX κ i → u.2.2 i = ad i) (fun (u : KS × TAU × (Nat → Nat)) tt => rPo D (rA (wX q ad κ τ) sz) (wX q u.2.2 u.1 u.2.1) tt) (rA (wX q ad κ τ) sz)) (4 * g) (44 * g) (rA (wX q ad κ τ) sz) := by
  have hi0 : vp_in xa 8 := hs.1
  have hi1 : vp_in xb 8 := hs.2.1
  have hi2 : vp_in xc 8 := hs.2.2
  refine r_start (cc := cX4_perform) (maxL := 2) (ret := (some .int)) (by decide) rfl (Nat.le_of_ble_eq_true rfl) ?_
  intro p e s m below meth c ls hC hr hlk hnm hsz hw hl
  have hx := hC.1
  have hb := hC.2.1
  have hl : lv_has ls 2 [(0, .ref (ad 3)), (1, .ref (ad ρ))] := hl
  refine lv_aload_n hx hb dX4_perform_0 rfl (lv_at hl 1 rfl) ?_
  refine r_get hC hw rk5 in_X4_perform_5 ρ hst.1 hst.2 0 (by decide) lk_X4_perform_95 (v := .int 42) rfl dX4_perform_1 ?_
  refine lv_iconst (v := 1) hx hb dX4_perform_4 (by decide) ?_
  refine lv_icmp_lt (tgt := 26) hx hb dX4_perform_5 (by decide) (fun c_ => absurd c_ (by decide)) (fun _ => ?_)
  refine lv_aload_n hx hb dX4_perform_8 rfl (lv_at hl 1 rfl) ?_
  refine r_get hC hw rk5 in_X4_perform_5 ρ hst.1 hst.2 0 (by decide) lk_X4_perform_95 (v := .int 42) rfl dX4_perform_9 ?_
  refine lv_bipush (v := 26) hx hb dX4_perform_12 (by decide) ?_
  refine lv_icmp_gt (tgt := 26) hx hb dX4_perform_14 (by decide) (fun _ => ?_) (fun c_ => absurd (by decide) c_)
  refine lv_aload_n hx hb dX4_perform_26 rfl (lv_at hl 1 rfl) ?_
  refine r_get hC hw rk5 in_X4_perform_5 ρ hst.1 hst.2 0 (by decide) lk_X4_perform_95 (v := .int 42) rfl dX4_perform_27 ?_
  refine lv_lookup (off := 211) (tgt := 241) hx hb dX4_perform_30 (by decide) (by decide) (by decide) ?_
  refine lv_aload_n hx hb dX4_perform_241 rfl (lv_at hl 0 rfl) ?_
  refine r_get hC hw rk4 in_X4_perform_4 3 (wXl 3 (by decide)) wXc3 3 (by decide) lk_X4_perform_31 (v := .ref (ad 5)) rfl dX4_perform_242 ?_
  refine lv_aload_n hx hb dX4_perform_245 rfl (lv_at hl 1 rfl) ?_
  refine r_ki hw (r_runV (rest := []) hC hw 5 (c_X7_weave_42 l _ ρ xa xb xc hd th hst hs hX (nn_FB hB 42 _ _ _ (by decide) (by decide))) rk7 (wXl 5 (by decide)) wXc5 1 gX4_perform_X7_weave rfl rfl rfl (by decide +kernel) ⟨Nat.le_of_ble_eq_true rfl, Nat.le_of_ble_eq_true rfl⟩ rfl hl.1 rfl (Nat.le_of_ble_eq_true rfl) dX4_perform_246 ⟨Nat.le_of_ble_eq_true rfl, Nat.le_of_ble_eq_true rfl⟩) (fun r_2 u_3 H locs h_1 hw => ?_)
  exact r_iret hC hr hlk hw (u_3, τ, ad) rfl ⟨⟨h_1, τ.2.2.1, rfl, fun _ => rfl⟩, fun _ _ => rfl⟩ (show _ ≤ 4 * g by omega) (show _ ≤ 44 * g by omega) dX4_perform_249

set_option maxHeartbeats 4000000 in
set_option maxRecDepth 100000 in
theorem c_X4_perform_43 (l : Launch) {D : va_G} {q : Nat → ClassId} {ad : Nat → Nat} {κ : KS} {τ : TAU} (sz : Nat) (ρ : Nat) (xa xb xc hd th : Int32) (hst : stepAt q ad κ τ ρ 43 xa xb xc) (hs : okStep 43 xa xb xc)(hX : WFx κ) (hm : vp_in (sI κ 2) 61) (hF : WFa κ τ (aN (sI κ 2))) (hρ : 400 ≤ ρ) (hB : FB κ) (hc6 : ∃ n, n ≤ 12 ∧ sI κ 6 = nI n) (hT : ¬ sI κ 7 < 0) (hhd : hd = sI κ 9) (hth : τ.2.2.2 = rT th) (hthv : ¬ th = 0 → aN (th - 1) < aN (sI κ 2)) (g : Nat) (hg : why κ 43 xa xb xc = 0 → mkN κ 43 xb ≤ g) : Met l yX4_perform wsX4_perform (rmc 4 99 (4 * g) (44 * g)) (va_Pc [.ref (ad 3), .ref (ad ρ)] (rPre D q (wX q ad κ τ) sz)) (va_Qi (fun (r : Int32) (u : KS × TAU × (Nat → Nat)) => ((r, u.1) = doR κ hd th 43 xa xb xc ∧ ∃ v, u.2.1 = (τ.1, τ.2.1, v, τ.2.2.2) ∧ (r = 0 → v = nxt κ 43 xa xb τ.2.2.1)) ∧ ∀ i, lvX κ i → u.2.2 i = ad i) (fun (u : KS × TAU × (Nat → Nat)) tt => rPo D (rA (wX q ad κ τ) sz) (wX q u.2.2 u.1 u.2.1) tt) (rA (wX q ad κ τ) sz)) (4 * g) (44 * g) (rA (wX q ad κ τ) sz) := by
  have hi0 : vp_in xa 8 := hs.1
  have hi1 : vp_in xb 8 := hs.2.1
  have hi2 : vp_in xc 8 := hs.2.2
  refine r_start (cc := cX4_perform) (maxL := 2) (ret := (some .int)) (by decide) rfl (Nat.le_of_ble_eq_true rfl) ?_
  intro p e s m below meth c ls hC hr hlk hnm hsz hw hl
  have hx := hC.1
  have hb := hC.2.1
  have hl : lv_has ls 2 [(0, .ref (ad 3)), (1, .ref (ad ρ))] := hl
  refine lv_aload_n hx hb dX4_perform_0 rfl (lv_at hl 1 rfl) ?_
  refine r_get hC hw rk5 in_X4_perform_5 ρ hst.1 hst.2 0 (by decide) lk_X4_perform_95 (v := .int 43) rfl dX4_perform_1 ?_
  refine lv_iconst (v := 1) hx hb dX4_perform_4 (by decide) ?_
  refine lv_icmp_lt (tgt := 26) hx hb dX4_perform_5 (by decide) (fun c_ => absurd c_ (by decide)) (fun _ => ?_)
  refine lv_aload_n hx hb dX4_perform_8 rfl (lv_at hl 1 rfl) ?_
  refine r_get hC hw rk5 in_X4_perform_5 ρ hst.1 hst.2 0 (by decide) lk_X4_perform_95 (v := .int 43) rfl dX4_perform_9 ?_
  refine lv_bipush (v := 26) hx hb dX4_perform_12 (by decide) ?_
  refine lv_icmp_gt (tgt := 26) hx hb dX4_perform_14 (by decide) (fun _ => ?_) (fun c_ => absurd (by decide) c_)
  refine lv_aload_n hx hb dX4_perform_26 rfl (lv_at hl 1 rfl) ?_
  refine r_get hC hw rk5 in_X4_perform_5 ρ hst.1 hst.2 0 (by decide) lk_X4_perform_95 (v := .int 43) rfl dX4_perform_27 ?_
  refine lv_lookup (off := 211) (tgt := 241) hx hb dX4_perform_30 (by decide) (by decide) (by decide) ?_
  refine lv_aload_n hx hb dX4_perform_241 rfl (lv_at hl 0 rfl) ?_
  refine r_get hC hw rk4 in_X4_perform_4 3 (wXl 3 (by decide)) wXc3 3 (by decide) lk_X4_perform_31 (v := .ref (ad 5)) rfl dX4_perform_242 ?_
  refine lv_aload_n hx hb dX4_perform_245 rfl (lv_at hl 1 rfl) ?_
  refine r_ki hw (r_runV (rest := []) hC hw 5 (c_X7_weave_43 l _ ρ xa xb xc hd th hst hs hX (nn_FB hB 43 _ _ _ (by decide) (by decide))) rk7 (wXl 5 (by decide)) wXc5 1 gX4_perform_X7_weave rfl rfl rfl (by decide +kernel) ⟨Nat.le_of_ble_eq_true rfl, Nat.le_of_ble_eq_true rfl⟩ rfl hl.1 rfl (Nat.le_of_ble_eq_true rfl) dX4_perform_246 ⟨Nat.le_of_ble_eq_true rfl, Nat.le_of_ble_eq_true rfl⟩) (fun r_2 u_3 H locs h_1 hw => ?_)
  exact r_iret hC hr hlk hw (u_3, τ, ad) rfl ⟨⟨h_1, τ.2.2.1, rfl, fun _ => rfl⟩, fun _ _ => rfl⟩ (show _ ≤ 4 * g by omega) (show _ ≤ 44 * g by omega) dX4_perform_249

set_option maxHeartbeats 4000000 in
set_option maxRecDepth 100000 in
theorem c_X4_perform_44 (l : Launch) {D : va_G} {q : Nat → ClassId} {ad : Nat → Nat} {κ : KS} {τ : TAU} (sz : Nat) (ρ : Nat) (xa xb xc hd th : Int32) (hst : stepAt q ad κ τ ρ 44 xa xb xc) (hs : okStep 44 xa xb xc)(hX : WFx κ) (hm : vp_in (sI κ 2) 61) (hF : WFa κ τ (aN (sI κ 2))) (hρ : 400 ≤ ρ) (hB : FB κ) (hc6 : ∃ n, n ≤ 12 ∧ sI κ 6 = nI n) (hT : ¬ sI κ 7 < 0) (hhd : hd = sI κ 9) (hth : τ.2.2.2 = rT th) (hthv : ¬ th = 0 → aN (th - 1) < aN (sI κ 2)) (g : Nat) (hg : why κ 44 xa xb xc = 0 → mkN κ 44 xb ≤ g) : Met l yX4_perform wsX4_perform (rmc 4 99 (4 * g) (44 * g)) (va_Pc [.ref (ad 3), .ref (ad ρ)] (rPre D q (wX q ad κ τ) sz)) (va_Qi (fun (r : Int32) (u : KS × TAU × (Nat → Nat)) => ((r, u.1) = doR κ hd th 44 xa xb xc ∧ ∃ v, u.2.1 = (τ.1, τ.2.1, v, τ.2.2.2) ∧ (r = 0 → v = nxt κ 44 xa xb τ.2.2.1)) ∧ ∀ i, lvX κ i → u.2.2 i = ad i) (fun (u : KS × TAU × (Nat → Nat)) tt => rPo D (rA (wX q ad κ τ) sz) (wX q u.2.2 u.1 u.2.1) tt) (rA (wX q ad κ τ) sz)) (4 * g) (44 * g) (rA (wX q ad κ τ) sz) := by
  have hi0 : vp_in xa 4 := hs.1
  have hi1 : vp_in xb 8 := hs.2.1
  have hi2 : vp_in xc 8 := hs.2.2
  refine r_start (cc := cX4_perform) (maxL := 2) (ret := (some .int)) (by decide) rfl (Nat.le_of_ble_eq_true rfl) ?_
  intro p e s m below meth c ls hC hr hlk hnm hsz hw hl
  have hx := hC.1
  have hb := hC.2.1
  have hl : lv_has ls 2 [(0, .ref (ad 3)), (1, .ref (ad ρ))] := hl
  refine lv_aload_n hx hb dX4_perform_0 rfl (lv_at hl 1 rfl) ?_
  refine r_get hC hw rk5 in_X4_perform_5 ρ hst.1 hst.2 0 (by decide) lk_X4_perform_95 (v := .int 44) rfl dX4_perform_1 ?_
  refine lv_iconst (v := 1) hx hb dX4_perform_4 (by decide) ?_
  refine lv_icmp_lt (tgt := 26) hx hb dX4_perform_5 (by decide) (fun c_ => absurd c_ (by decide)) (fun _ => ?_)
  refine lv_aload_n hx hb dX4_perform_8 rfl (lv_at hl 1 rfl) ?_
  refine r_get hC hw rk5 in_X4_perform_5 ρ hst.1 hst.2 0 (by decide) lk_X4_perform_95 (v := .int 44) rfl dX4_perform_9 ?_
  refine lv_bipush (v := 26) hx hb dX4_perform_12 (by decide) ?_
  refine lv_icmp_gt (tgt := 26) hx hb dX4_perform_14 (by decide) (fun _ => ?_) (fun c_ => absurd (by decide) c_)
  refine lv_aload_n hx hb dX4_perform_26 rfl (lv_at hl 1 rfl) ?_
  refine r_get hC hw rk5 in_X4_perform_5 ρ hst.1 hst.2 0 (by decide) lk_X4_perform_95 (v := .int 44) rfl dX4_perform_27 ?_
  refine lv_lookup (off := 211) (tgt := 241) hx hb dX4_perform_30 (by decide) (by decide) (by decide) ?_
  refine lv_aload_n hx hb dX4_perform_241 rfl (lv_at hl 0 rfl) ?_
  refine r_get hC hw rk4 in_X4_perform_4 3 (wXl 3 (by decide)) wXc3 3 (by decide) lk_X4_perform_31 (v := .ref (ad 5)) rfl dX4_perform_242 ?_
  refine lv_aload_n hx hb dX4_perform_245 rfl (lv_at hl 1 rfl) ?_
  refine r_ki hw (r_runV (rest := []) hC hw 5 (c_X7_weave_44 l _ ρ xa xb xc hd th hst hs hX (nn_FB hB 44 _ _ _ (by decide) (by decide))) rk7 (wXl 5 (by decide)) wXc5 1 gX4_perform_X7_weave rfl rfl rfl (by decide +kernel) ⟨Nat.le_of_ble_eq_true rfl, Nat.le_of_ble_eq_true rfl⟩ rfl hl.1 rfl (Nat.le_of_ble_eq_true rfl) dX4_perform_246 ⟨Nat.le_of_ble_eq_true rfl, Nat.le_of_ble_eq_true rfl⟩) (fun r_2 u_3 H locs h_1 hw => ?_)
  exact r_iret hC hr hlk hw (u_3, τ, ad) rfl ⟨⟨h_1, τ.2.2.1, rfl, fun _ => rfl⟩, fun _ _ => rfl⟩ (show _ ≤ 4 * g by omega) (show _ ≤ 44 * g by omega) dX4_perform_249

set_option maxHeartbeats 4000000 in
set_option maxRecDepth 100000 in
theorem c_X4_perform_45 (l : Launch) {D : va_G} {q : Nat → ClassId} {ad : Nat → Nat} {κ : KS} {τ : TAU} (sz : Nat) (ρ : Nat) (xa xb xc hd th : Int32) (hst : stepAt q ad κ τ ρ 45 xa xb xc) (hs : okStep 45 xa xb xc)(hX : WFx κ) (hm : vp_in (sI κ 2) 61) (hF : WFa κ τ (aN (sI κ 2))) (hρ : 400 ≤ ρ) (hB : FB κ) (hc6 : ∃ n, n ≤ 12 ∧ sI κ 6 = nI n) (hT : ¬ sI κ 7 < 0) (hhd : hd = sI κ 9) (hth : τ.2.2.2 = rT th) (hthv : ¬ th = 0 → aN (th - 1) < aN (sI κ 2)) (g : Nat) (hg : why κ 45 xa xb xc = 0 → mkN κ 45 xb ≤ g) : Met l yX4_perform wsX4_perform (rmc 4 99 (4 * g) (44 * g)) (va_Pc [.ref (ad 3), .ref (ad ρ)] (rPre D q (wX q ad κ τ) sz)) (va_Qi (fun (r : Int32) (u : KS × TAU × (Nat → Nat)) => ((r, u.1) = doR κ hd th 45 xa xb xc ∧ ∃ v, u.2.1 = (τ.1, τ.2.1, v, τ.2.2.2) ∧ (r = 0 → v = nxt κ 45 xa xb τ.2.2.1)) ∧ ∀ i, lvX κ i → u.2.2 i = ad i) (fun (u : KS × TAU × (Nat → Nat)) tt => rPo D (rA (wX q ad κ τ) sz) (wX q u.2.2 u.1 u.2.1) tt) (rA (wX q ad κ τ) sz)) (4 * g) (44 * g) (rA (wX q ad κ τ) sz) := by
  have hi0 : vp_in xa 4 := hs.1
  have hi1 : vp_in xb 8 := hs.2.1
  have hi2 : vp_in xc 8 := hs.2.2
  refine r_start (cc := cX4_perform) (maxL := 2) (ret := (some .int)) (by decide) rfl (Nat.le_of_ble_eq_true rfl) ?_
  intro p e s m below meth c ls hC hr hlk hnm hsz hw hl
  have hx := hC.1
  have hb := hC.2.1
  have hl : lv_has ls 2 [(0, .ref (ad 3)), (1, .ref (ad ρ))] := hl
  refine lv_aload_n hx hb dX4_perform_0 rfl (lv_at hl 1 rfl) ?_
  refine r_get hC hw rk5 in_X4_perform_5 ρ hst.1 hst.2 0 (by decide) lk_X4_perform_95 (v := .int 45) rfl dX4_perform_1 ?_
  refine lv_iconst (v := 1) hx hb dX4_perform_4 (by decide) ?_
  refine lv_icmp_lt (tgt := 26) hx hb dX4_perform_5 (by decide) (fun c_ => absurd c_ (by decide)) (fun _ => ?_)
  refine lv_aload_n hx hb dX4_perform_8 rfl (lv_at hl 1 rfl) ?_
  refine r_get hC hw rk5 in_X4_perform_5 ρ hst.1 hst.2 0 (by decide) lk_X4_perform_95 (v := .int 45) rfl dX4_perform_9 ?_
  refine lv_bipush (v := 26) hx hb dX4_perform_12 (by decide) ?_
  refine lv_icmp_gt (tgt := 26) hx hb dX4_perform_14 (by decide) (fun _ => ?_) (fun c_ => absurd (by decide) c_)
  refine lv_aload_n hx hb dX4_perform_26 rfl (lv_at hl 1 rfl) ?_
  refine r_get hC hw rk5 in_X4_perform_5 ρ hst.1 hst.2 0 (by decide) lk_X4_perform_95 (v := .int 45) rfl dX4_perform_27 ?_
  refine lv_lookup (off := 211) (tgt := 241) hx hb dX4_perform_30 (by decide) (by decide) (by decide) ?_
  refine lv_aload_n hx hb dX4_perform_241 rfl (lv_at hl 0 rfl) ?_
  refine r_get hC hw rk4 in_X4_perform_4 3 (wXl 3 (by decide)) wXc3 3 (by decide) lk_X4_perform_31 (v := .ref (ad 5)) rfl dX4_perform_242 ?_
  refine lv_aload_n hx hb dX4_perform_245 rfl (lv_at hl 1 rfl) ?_
  refine r_ki hw (r_runV (rest := []) hC hw 5 (c_X7_weave_45 l _ ρ xa xb xc hd th hst hs hX (nn_FB hB 45 _ _ _ (by decide) (by decide))) rk7 (wXl 5 (by decide)) wXc5 1 gX4_perform_X7_weave rfl rfl rfl (by decide +kernel) ⟨Nat.le_of_ble_eq_true rfl, Nat.le_of_ble_eq_true rfl⟩ rfl hl.1 rfl (Nat.le_of_ble_eq_true rfl) dX4_perform_246 ⟨Nat.le_of_ble_eq_true rfl, Nat.le_of_ble_eq_true rfl⟩) (fun r_2 u_3 H locs h_1 hw => ?_)
  exact r_iret hC hr hlk hw (u_3, τ, ad) rfl ⟨⟨h_1, τ.2.2.1, rfl, fun _ => rfl⟩, fun _ _ => rfl⟩ (show _ ≤ 4 * g by omega) (show _ ≤ 44 * g by omega) dX4_perform_249

set_option maxHeartbeats 4000000 in
set_option maxRecDepth 100000 in
theorem c_X4_perform_46 (l : Launch) {D : va_G} {q : Nat → ClassId} {ad : Nat → Nat} {κ : KS} {τ : TAU} (sz : Nat) (ρ : Nat) (xa xb xc hd th : Int32) (hst : stepAt q ad κ τ ρ 46 xa xb xc) (hs : okStep 46 xa xb xc)(hX : WFx κ) (hm : vp_in (sI κ 2) 61) (hF : WFa κ τ (aN (sI κ 2))) (hρ : 400 ≤ ρ) (hB : FB κ) (hc6 : ∃ n, n ≤ 12 ∧ sI κ 6 = nI n) (hT : ¬ sI κ 7 < 0) (hhd : hd = sI κ 9) (hth : τ.2.2.2 = rT th) (hthv : ¬ th = 0 → aN (th - 1) < aN (sI κ 2)) (g : Nat) (hg : why κ 46 xa xb xc = 0 → mkN κ 46 xb ≤ g) : Met l yX4_perform wsX4_perform (rmc 4 99 (4 * g) (44 * g)) (va_Pc [.ref (ad 3), .ref (ad ρ)] (rPre D q (wX q ad κ τ) sz)) (va_Qi (fun (r : Int32) (u : KS × TAU × (Nat → Nat)) => ((r, u.1) = doR κ hd th 46 xa xb xc ∧ ∃ v, u.2.1 = (τ.1, τ.2.1, v, τ.2.2.2) ∧ (r = 0 → v = nxt κ 46 xa xb τ.2.2.1)) ∧ ∀ i, lvX κ i → u.2.2 i = ad i) (fun (u : KS × TAU × (Nat → Nat)) tt => rPo D (rA (wX q ad κ τ) sz) (wX q u.2.2 u.1 u.2.1) tt) (rA (wX q ad κ τ) sz)) (4 * g) (44 * g) (rA (wX q ad κ τ) sz) := by
  have hi0 : vp_in xa 4 := hs.1
  have hi1 : vp_in xb 8 := hs.2.1
  have hi2 : vp_in xc 8 := hs.2.2
  refine r_start (cc := cX4_perform) (maxL := 2) (ret := (some .int)) (by decide) rfl (Nat.le_of_ble_eq_true rfl) ?_
  intro p e s m below meth c ls hC hr hlk hnm hsz hw hl
  have hx := hC.1
  have hb := hC.2.1
  have hl : lv_has ls 2 [(0, .ref (ad 3)), (1, .ref (ad ρ))] := hl
  refine lv_aload_n hx hb dX4_perform_0 rfl (lv_at hl 1 rfl) ?_
  refine r_get hC hw rk5 in_X4_perform_5 ρ hst.1 hst.2 0 (by decide) lk_X4_perform_95 (v := .int 46) rfl dX4_perform_1 ?_
  refine lv_iconst (v := 1) hx hb dX4_perform_4 (by decide) ?_
  refine lv_icmp_lt (tgt := 26) hx hb dX4_perform_5 (by decide) (fun c_ => absurd c_ (by decide)) (fun _ => ?_)
  refine lv_aload_n hx hb dX4_perform_8 rfl (lv_at hl 1 rfl) ?_
  refine r_get hC hw rk5 in_X4_perform_5 ρ hst.1 hst.2 0 (by decide) lk_X4_perform_95 (v := .int 46) rfl dX4_perform_9 ?_
  refine lv_bipush (v := 26) hx hb dX4_perform_12 (by decide) ?_
  refine lv_icmp_gt (tgt := 26) hx hb dX4_perform_14 (by decide) (fun _ => ?_) (fun c_ => absurd (by decide) c_)
  refine lv_aload_n hx hb dX4_perform_26 rfl (lv_at hl 1 rfl) ?_
  refine r_get hC hw rk5 in_X4_perform_5 ρ hst.1 hst.2 0 (by decide) lk_X4_perform_95 (v := .int 46) rfl dX4_perform_27 ?_
  refine lv_lookup (off := 211) (tgt := 241) hx hb dX4_perform_30 (by decide) (by decide) (by decide) ?_
  refine lv_aload_n hx hb dX4_perform_241 rfl (lv_at hl 0 rfl) ?_
  refine r_get hC hw rk4 in_X4_perform_4 3 (wXl 3 (by decide)) wXc3 3 (by decide) lk_X4_perform_31 (v := .ref (ad 5)) rfl dX4_perform_242 ?_
  refine lv_aload_n hx hb dX4_perform_245 rfl (lv_at hl 1 rfl) ?_
  refine r_ki hw (r_runV (rest := []) hC hw 5 (c_X7_weave_46 l _ ρ xa xb xc hd th hst hs hX (nn_FB hB 46 _ _ _ (by decide) (by decide))) rk7 (wXl 5 (by decide)) wXc5 1 gX4_perform_X7_weave rfl rfl rfl (by decide +kernel) ⟨Nat.le_of_ble_eq_true rfl, Nat.le_of_ble_eq_true rfl⟩ rfl hl.1 rfl (Nat.le_of_ble_eq_true rfl) dX4_perform_246 ⟨Nat.le_of_ble_eq_true rfl, Nat.le_of_ble_eq_true rfl⟩) (fun r_2 u_3 H locs h_1 hw => ?_)
  exact r_iret hC hr hlk hw (u_3, τ, ad) rfl ⟨⟨h_1, τ.2.2.1, rfl, fun _ => rfl⟩, fun _ _ => rfl⟩ (show _ ≤ 4 * g by omega) (show _ ≤ 44 * g by omega) dX4_perform_249

set_option maxHeartbeats 4000000 in
set_option maxRecDepth 100000 in
theorem c_X4_perform_47 (l : Launch) {D : va_G} {q : Nat → ClassId} {ad : Nat → Nat} {κ : KS} {τ : TAU} (sz : Nat) (ρ : Nat) (xa xb xc hd th : Int32) (hst : stepAt q ad κ τ ρ 47 xa xb xc) (hs : okStep 47 xa xb xc)(hX : WFx κ) (hm : vp_in (sI κ 2) 61) (hF : WFa κ τ (aN (sI κ 2))) (hρ : 400 ≤ ρ) (hB : FB κ) (hc6 : ∃ n, n ≤ 12 ∧ sI κ 6 = nI n) (hT : ¬ sI κ 7 < 0) (hhd : hd = sI κ 9) (hth : τ.2.2.2 = rT th) (hthv : ¬ th = 0 → aN (th - 1) < aN (sI κ 2)) (g : Nat) (hg : why κ 47 xa xb xc = 0 → mkN κ 47 xb ≤ g) : Met l yX4_perform wsX4_perform (rmc 4 99 (4 * g) (44 * g)) (va_Pc [.ref (ad 3), .ref (ad ρ)] (rPre D q (wX q ad κ τ) sz)) (va_Qi (fun (r : Int32) (u : KS × TAU × (Nat → Nat)) => ((r, u.1) = doR κ hd th 47 xa xb xc ∧ ∃ v, u.2.1 = (τ.1, τ.2.1, v, τ.2.2.2) ∧ (r = 0 → v = nxt κ 47 xa xb τ.2.2.1)) ∧ ∀ i, lvX κ i → u.2.2 i = ad i) (fun (u : KS × TAU × (Nat → Nat)) tt => rPo D (rA (wX q ad κ τ) sz) (wX q u.2.2 u.1 u.2.1) tt) (rA (wX q ad κ τ) sz)) (4 * g) (44 * g) (rA (wX q ad κ τ) sz) := by
  have hi0 : vp_in xa 8 := hs.1
  have hi1 : vp_in xb 8 := hs.2.1
  have hi2 : vp_in xc 8 := hs.2.2
  refine r_start (cc := cX4_perform) (maxL := 2) (ret := (some .int)) (by decide) rfl (Nat.le_of_ble_eq_true rfl) ?_
  intro p e s m below meth c ls hC hr hlk hnm hsz hw hl
  have hx := hC.1
  have hb := hC.2.1
  have hl : lv_has ls 2 [(0, .ref (ad 3)), (1, .ref (ad ρ))] := hl
  refine lv_aload_n hx hb dX4_perform_0 rfl (lv_at hl 1 rfl) ?_
  refine r_get hC hw rk5 in_X4_perform_5 ρ hst.1 hst.2 0 (by decide) lk_X4_perform_95 (v := .int 47) rfl dX4_perform_1 ?_
  refine lv_iconst (v := 1) hx hb dX4_perform_4 (by decide) ?_
  refine lv_icmp_lt (tgt := 26) hx hb dX4_perform_5 (by decide) (fun c_ => absurd c_ (by decide)) (fun _ => ?_)
  refine lv_aload_n hx hb dX4_perform_8 rfl (lv_at hl 1 rfl) ?_
  refine r_get hC hw rk5 in_X4_perform_5 ρ hst.1 hst.2 0 (by decide) lk_X4_perform_95 (v := .int 47) rfl dX4_perform_9 ?_
  refine lv_bipush (v := 26) hx hb dX4_perform_12 (by decide) ?_
  refine lv_icmp_gt (tgt := 26) hx hb dX4_perform_14 (by decide) (fun _ => ?_) (fun c_ => absurd (by decide) c_)
  refine lv_aload_n hx hb dX4_perform_26 rfl (lv_at hl 1 rfl) ?_
  refine r_get hC hw rk5 in_X4_perform_5 ρ hst.1 hst.2 0 (by decide) lk_X4_perform_95 (v := .int 47) rfl dX4_perform_27 ?_
  refine lv_lookup (off := 211) (tgt := 241) hx hb dX4_perform_30 (by decide) (by decide) (by decide) ?_
  refine lv_aload_n hx hb dX4_perform_241 rfl (lv_at hl 0 rfl) ?_
  refine r_get hC hw rk4 in_X4_perform_4 3 (wXl 3 (by decide)) wXc3 3 (by decide) lk_X4_perform_31 (v := .ref (ad 5)) rfl dX4_perform_242 ?_
  refine lv_aload_n hx hb dX4_perform_245 rfl (lv_at hl 1 rfl) ?_
  refine r_ki hw (r_runV (rest := []) hC hw 5 (c_X7_weave_47 l _ ρ xa xb xc hd th hst hs hX (nn_FB hB 47 _ _ _ (by decide) (by decide))) rk7 (wXl 5 (by decide)) wXc5 1 gX4_perform_X7_weave rfl rfl rfl (by decide +kernel) ⟨Nat.le_of_ble_eq_true rfl, Nat.le_of_ble_eq_true rfl⟩ rfl hl.1 rfl (Nat.le_of_ble_eq_true rfl) dX4_perform_246 ⟨Nat.le_of_ble_eq_true rfl, Nat.le_of_ble_eq_true rfl⟩) (fun r_2 u_3 H locs h_1 hw => ?_)
  exact r_iret hC hr hlk hw (u_3, τ, ad) rfl ⟨⟨h_1, τ.2.2.1, rfl, fun _ => rfl⟩, fun _ _ => rfl⟩ (show _ ≤ 4 * g by omega) (show _ ≤ 44 * g by omega) dX4_perform_249

set_option maxHeartbeats 4000000 in
set_option maxRecDepth 100000 in
theorem c_X4_perform_48 (l : Launch) {D : va_G} {q : Nat → ClassId} {ad : Nat → Nat} {κ : KS} {τ : TAU} (sz : Nat) (ρ : Nat) (xa xb xc hd th : Int32) (hst : stepAt q ad κ τ ρ 48 xa xb xc) (hs : okStep 48 xa xb xc)(hX : WFx κ) (hm : vp_in (sI κ 2) 61) (hF : WFa κ τ (aN (sI κ 2))) (hρ : 400 ≤ ρ) (hB : FB κ) (hc6 : ∃ n, n ≤ 12 ∧ sI κ 6 = nI n) (hT : ¬ sI κ 7 < 0) (hhd : hd = sI κ 9) (hth : τ.2.2.2 = rT th) (hthv : ¬ th = 0 → aN (th - 1) < aN (sI κ 2)) (g : Nat) (hg : why κ 48 xa xb xc = 0 → mkN κ 48 xb ≤ g) : Met l yX4_perform wsX4_perform (rmc 4 99 (4 * g) (44 * g)) (va_Pc [.ref (ad 3), .ref (ad ρ)] (rPre D q (wX q ad κ τ) sz)) (va_Qi (fun (r : Int32) (u : KS × TAU × (Nat → Nat)) => ((r, u.1) = doR κ hd th 48 xa xb xc ∧ ∃ v, u.2.1 = (τ.1, τ.2.1, v, τ.2.2.2) ∧ (r = 0 → v = nxt κ 48 xa xb τ.2.2.1)) ∧ ∀ i, lvX κ i → u.2.2 i = ad i) (fun (u : KS × TAU × (Nat → Nat)) tt => rPo D (rA (wX q ad κ τ) sz) (wX q u.2.2 u.1 u.2.1) tt) (rA (wX q ad κ τ) sz)) (4 * g) (44 * g) (rA (wX q ad κ τ) sz) := by
  have hi0 : vp_in xa 8 := hs.1
  have hi1 : vp_in xb 8 := hs.2.1
  have hi2 : vp_in xc 8 := hs.2.2
  refine r_start (cc := cX4_perform) (maxL := 2) (ret := (some .int)) (by decide) rfl (Nat.le_of_ble_eq_true rfl) ?_
  intro p e s m below meth c ls hC hr hlk hnm hsz hw hl
  have hx := hC.1
  have hb := hC.2.1
  have hl : lv_has ls 2 [(0, .ref (ad 3)), (1, .ref (ad ρ))] := hl
  refine lv_aload_n hx hb dX4_perform_0 rfl (lv_at hl 1 rfl) ?_
  refine r_get hC hw rk5 in_X4_perform_5 ρ hst.1 hst.2 0 (by decide) lk_X4_perform_95 (v := .int 48) rfl dX4_perform_1 ?_
  refine lv_iconst (v := 1) hx hb dX4_perform_4 (by decide) ?_
  refine lv_icmp_lt (tgt := 26) hx hb dX4_perform_5 (by decide) (fun c_ => absurd c_ (by decide)) (fun _ => ?_)
  refine lv_aload_n hx hb dX4_perform_8 rfl (lv_at hl 1 rfl) ?_
  refine r_get hC hw rk5 in_X4_perform_5 ρ hst.1 hst.2 0 (by decide) lk_X4_perform_95 (v := .int 48) rfl dX4_perform_9 ?_
  refine lv_bipush (v := 26) hx hb dX4_perform_12 (by decide) ?_
  refine lv_icmp_gt (tgt := 26) hx hb dX4_perform_14 (by decide) (fun _ => ?_) (fun c_ => absurd (by decide) c_)
  refine lv_aload_n hx hb dX4_perform_26 rfl (lv_at hl 1 rfl) ?_
  refine r_get hC hw rk5 in_X4_perform_5 ρ hst.1 hst.2 0 (by decide) lk_X4_perform_95 (v := .int 48) rfl dX4_perform_27 ?_
  refine lv_lookup (off := 211) (tgt := 241) hx hb dX4_perform_30 (by decide) (by decide) (by decide) ?_
  refine lv_aload_n hx hb dX4_perform_241 rfl (lv_at hl 0 rfl) ?_
  refine r_get hC hw rk4 in_X4_perform_4 3 (wXl 3 (by decide)) wXc3 3 (by decide) lk_X4_perform_31 (v := .ref (ad 5)) rfl dX4_perform_242 ?_
  refine lv_aload_n hx hb dX4_perform_245 rfl (lv_at hl 1 rfl) ?_
  refine r_ki hw (r_runV (rest := []) hC hw 5 (c_X7_weave_48 l _ ρ xa xb xc hd th hst hs hX (nn_FB hB 48 _ _ _ (by decide) (by decide))) rk7 (wXl 5 (by decide)) wXc5 1 gX4_perform_X7_weave rfl rfl rfl (by decide +kernel) ⟨Nat.le_of_ble_eq_true rfl, Nat.le_of_ble_eq_true rfl⟩ rfl hl.1 rfl (Nat.le_of_ble_eq_true rfl) dX4_perform_246 ⟨Nat.le_of_ble_eq_true rfl, Nat.le_of_ble_eq_true rfl⟩) (fun r_2 u_3 H locs h_1 hw => ?_)
  exact r_iret hC hr hlk hw (u_3, τ, ad) rfl ⟨⟨h_1, τ.2.2.1, rfl, fun _ => rfl⟩, fun _ _ => rfl⟩ (show _ ≤ 4 * g by omega) (show _ ≤ 44 * g by omega) dX4_perform_249

set_option maxHeartbeats 4000000 in
set_option maxRecDepth 100000 in
theorem c_X4_perform_49 (l : Launch) {D : va_G} {q : Nat → ClassId} {ad : Nat → Nat} {κ : KS} {τ : TAU} (sz : Nat) (ρ : Nat) (xa xb xc hd th : Int32) (hst : stepAt q ad κ τ ρ 49 xa xb xc) (hs : okStep 49 xa xb xc)(hX : WFx κ) (hm : vp_in (sI κ 2) 61) (hF : WFa κ τ (aN (sI κ 2))) (hρ : 400 ≤ ρ) (hB : FB κ) (hc6 : ∃ n, n ≤ 12 ∧ sI κ 6 = nI n) (hT : ¬ sI κ 7 < 0) (hhd : hd = sI κ 9) (hth : τ.2.2.2 = rT th) (hthv : ¬ th = 0 → aN (th - 1) < aN (sI κ 2)) (g : Nat) (hg : why κ 49 xa xb xc = 0 → mkN κ 49 xb ≤ g) : Met l yX4_perform wsX4_perform (rmc 4 99 (4 * g) (44 * g)) (va_Pc [.ref (ad 3), .ref (ad ρ)] (rPre D q (wX q ad κ τ) sz)) (va_Qi (fun (r : Int32) (u : KS × TAU × (Nat → Nat)) => ((r, u.1) = doR κ hd th 49 xa xb xc ∧ ∃ v, u.2.1 = (τ.1, τ.2.1, v, τ.2.2.2) ∧ (r = 0 → v = nxt κ 49 xa xb τ.2.2.1)) ∧ ∀ i, lvX κ i → u.2.2 i = ad i) (fun (u : KS × TAU × (Nat → Nat)) tt => rPo D (rA (wX q ad κ τ) sz) (wX q u.2.2 u.1 u.2.1) tt) (rA (wX q ad κ τ) sz)) (4 * g) (44 * g) (rA (wX q ad κ τ) sz) := by
  have hi0 : vp_in xa 8 := hs.1
  have hi1 : vp_in xb 8 := hs.2.1
  have hi2 : vp_in xc 8 := hs.2.2
  refine r_start (cc := cX4_perform) (maxL := 2) (ret := (some .int)) (by decide) rfl (Nat.le_of_ble_eq_true rfl) ?_
  intro p e s m below meth c ls hC hr hlk hnm hsz hw hl
  have hx := hC.1
  have hb := hC.2.1
  have hl : lv_has ls 2 [(0, .ref (ad 3)), (1, .ref (ad ρ))] := hl
  refine lv_aload_n hx hb dX4_perform_0 rfl (lv_at hl 1 rfl) ?_
  refine r_get hC hw rk5 in_X4_perform_5 ρ hst.1 hst.2 0 (by decide) lk_X4_perform_95 (v := .int 49) rfl dX4_perform_1 ?_
  refine lv_iconst (v := 1) hx hb dX4_perform_4 (by decide) ?_
  refine lv_icmp_lt (tgt := 26) hx hb dX4_perform_5 (by decide) (fun c_ => absurd c_ (by decide)) (fun _ => ?_)
  refine lv_aload_n hx hb dX4_perform_8 rfl (lv_at hl 1 rfl) ?_
  refine r_get hC hw rk5 in_X4_perform_5 ρ hst.1 hst.2 0 (by decide) lk_X4_perform_95 (v := .int 49) rfl dX4_perform_9 ?_
  refine lv_bipush (v := 26) hx hb dX4_perform_12 (by decide) ?_
  refine lv_icmp_gt (tgt := 26) hx hb dX4_perform_14 (by decide) (fun _ => ?_) (fun c_ => absurd (by decide) c_)
  refine lv_aload_n hx hb dX4_perform_26 rfl (lv_at hl 1 rfl) ?_
  refine r_get hC hw rk5 in_X4_perform_5 ρ hst.1 hst.2 0 (by decide) lk_X4_perform_95 (v := .int 49) rfl dX4_perform_27 ?_
  refine lv_lookup (off := 211) (tgt := 241) hx hb dX4_perform_30 (by decide) (by decide) (by decide) ?_
  refine lv_aload_n hx hb dX4_perform_241 rfl (lv_at hl 0 rfl) ?_
  refine r_get hC hw rk4 in_X4_perform_4 3 (wXl 3 (by decide)) wXc3 3 (by decide) lk_X4_perform_31 (v := .ref (ad 5)) rfl dX4_perform_242 ?_
  refine lv_aload_n hx hb dX4_perform_245 rfl (lv_at hl 1 rfl) ?_
  refine r_ki hw (r_runV (rest := []) hC hw 5 (c_X7_weave_49 l _ ρ xa xb xc hd th hst hs hX (nn_FB hB 49 _ _ _ (by decide) (by decide))) rk7 (wXl 5 (by decide)) wXc5 1 gX4_perform_X7_weave rfl rfl rfl (by decide +kernel) ⟨Nat.le_of_ble_eq_true rfl, Nat.le_of_ble_eq_true rfl⟩ rfl hl.1 rfl (Nat.le_of_ble_eq_true rfl) dX4_perform_246 ⟨Nat.le_of_ble_eq_true rfl, Nat.le_of_ble_eq_true rfl⟩) (fun r_2 u_3 H locs h_1 hw => ?_)
  exact r_iret hC hr hlk hw (u_3, τ, ad) rfl ⟨⟨h_1, τ.2.2.1, rfl, fun _ => rfl⟩, fun _ _ => rfl⟩ (show _ ≤ 4 * g by omega) (show _ ≤ 44 * g by omega) dX4_perform_249

set_option maxHeartbeats 4000000 in
set_option maxRecDepth 100000 in
theorem c_X4_perform_50 (l : Launch) {D : va_G} {q : Nat → ClassId} {ad : Nat → Nat} {κ : KS} {τ : TAU} (sz : Nat) (ρ : Nat) (xa xb xc hd th : Int32) (hst : stepAt q ad κ τ ρ 50 xa xb xc) (hs : okStep 50 xa xb xc)(hX : WFx κ) (hm : vp_in (sI κ 2) 61) (hF : WFa κ τ (aN (sI κ 2))) (hρ : 400 ≤ ρ) (hB : FB κ) (hc6 : ∃ n, n ≤ 12 ∧ sI κ 6 = nI n) (hT : ¬ sI κ 7 < 0) (hhd : hd = sI κ 9) (hth : τ.2.2.2 = rT th) (hthv : ¬ th = 0 → aN (th - 1) < aN (sI κ 2)) (g : Nat) (hg : why κ 50 xa xb xc = 0 → mkN κ 50 xb ≤ g) : Met l yX4_perform wsX4_perform (rmc 4 99 (4 * g) (44 * g)) (va_Pc [.ref (ad 3), .ref (ad ρ)] (rPre D q (wX q ad κ τ) sz)) (va_Qi (fun (r : Int32) (u : KS × TAU × (Nat → Nat)) => ((r, u.1) = doR κ hd th 50 xa xb xc ∧ ∃ v, u.2.1 = (τ.1, τ.2.1, v, τ.2.2.2) ∧ (r = 0 → v = nxt κ 50 xa xb τ.2.2.1)) ∧ ∀ i, lvX κ i → u.2.2 i = ad i) (fun (u : KS × TAU × (Nat → Nat)) tt => rPo D (rA (wX q ad κ τ) sz) (wX q u.2.2 u.1 u.2.1) tt) (rA (wX q ad κ τ) sz)) (4 * g) (44 * g) (rA (wX q ad κ τ) sz) := by
  have hi0 : vp_in xa 8 := hs.1
  have hi1 : vp_in xb 8 := hs.2.1
  have hi2 : vp_in xc 8 := hs.2.2
  refine r_start (cc := cX4_perform) (maxL := 2) (ret := (some .int)) (by decide) rfl (Nat.le_of_ble_eq_true rfl) ?_
  intro p e s m below meth c ls hC hr hlk hnm hsz hw hl
  have hx := hC.1
  have hb := hC.2.1
  have hl : lv_has ls 2 [(0, .ref (ad 3)), (1, .ref (ad ρ))] := hl
  refine lv_aload_n hx hb dX4_perform_0 rfl (lv_at hl 1 rfl) ?_
  refine r_get hC hw rk5 in_X4_perform_5 ρ hst.1 hst.2 0 (by decide) lk_X4_perform_95 (v := .int 50) rfl dX4_perform_1 ?_
  refine lv_iconst (v := 1) hx hb dX4_perform_4 (by decide) ?_
  refine lv_icmp_lt (tgt := 26) hx hb dX4_perform_5 (by decide) (fun c_ => absurd c_ (by decide)) (fun _ => ?_)
  refine lv_aload_n hx hb dX4_perform_8 rfl (lv_at hl 1 rfl) ?_
  refine r_get hC hw rk5 in_X4_perform_5 ρ hst.1 hst.2 0 (by decide) lk_X4_perform_95 (v := .int 50) rfl dX4_perform_9 ?_
  refine lv_bipush (v := 26) hx hb dX4_perform_12 (by decide) ?_
  refine lv_icmp_gt (tgt := 26) hx hb dX4_perform_14 (by decide) (fun _ => ?_) (fun c_ => absurd (by decide) c_)
  refine lv_aload_n hx hb dX4_perform_26 rfl (lv_at hl 1 rfl) ?_
  refine r_get hC hw rk5 in_X4_perform_5 ρ hst.1 hst.2 0 (by decide) lk_X4_perform_95 (v := .int 50) rfl dX4_perform_27 ?_
  refine lv_lookup (off := 211) (tgt := 241) hx hb dX4_perform_30 (by decide) (by decide) (by decide) ?_
  refine lv_aload_n hx hb dX4_perform_241 rfl (lv_at hl 0 rfl) ?_
  refine r_get hC hw rk4 in_X4_perform_4 3 (wXl 3 (by decide)) wXc3 3 (by decide) lk_X4_perform_31 (v := .ref (ad 5)) rfl dX4_perform_242 ?_
  refine lv_aload_n hx hb dX4_perform_245 rfl (lv_at hl 1 rfl) ?_
  refine r_ki hw (r_runV (rest := []) hC hw 5 (c_X7_weave_50 l _ ρ xa xb xc hd th hst hs hX (nn_FB hB 50 _ _ _ (by decide) (by decide))) rk7 (wXl 5 (by decide)) wXc5 1 gX4_perform_X7_weave rfl rfl rfl (by decide +kernel) ⟨Nat.le_of_ble_eq_true rfl, Nat.le_of_ble_eq_true rfl⟩ rfl hl.1 rfl (Nat.le_of_ble_eq_true rfl) dX4_perform_246 ⟨Nat.le_of_ble_eq_true rfl, Nat.le_of_ble_eq_true rfl⟩) (fun r_2 u_3 H locs h_1 hw => ?_)
  exact r_iret hC hr hlk hw (u_3, τ, ad) rfl ⟨⟨h_1, τ.2.2.1, rfl, fun _ => rfl⟩, fun _ _ => rfl⟩ (show _ ≤ 4 * g by omega) (show _ ≤ 44 * g by omega) dX4_perform_249

set_option maxHeartbeats 4000000 in
set_option maxRecDepth 100000 in
theorem c_X4_perform_51 (l : Launch) {D : va_G} {q : Nat → ClassId} {ad : Nat → Nat} {κ : KS} {τ : TAU} (sz : Nat) (ρ : Nat) (xa xb xc hd th : Int32) (hst : stepAt q ad κ τ ρ 51 xa xb xc) (hs : okStep 51 xa xb xc)(hX : WFx κ) (hm : vp_in (sI κ 2) 61) (hF : WFa κ τ (aN (sI κ 2))) (hρ : 400 ≤ ρ) (hB : FB κ) (hc6 : ∃ n, n ≤ 12 ∧ sI κ 6 = nI n) (hT : ¬ sI κ 7 < 0) (hhd : hd = sI κ 9) (hth : τ.2.2.2 = rT th) (hthv : ¬ th = 0 → aN (th - 1) < aN (sI κ 2)) (g : Nat) (hg : why κ 51 xa xb xc = 0 → mkN κ 51 xb ≤ g) : Met l yX4_perform wsX4_perform (rmc 4 99 (4 * g) (44 * g)) (va_Pc [.ref (ad 3), .ref (ad ρ)] (rPre D q (wX q ad κ τ) sz)) (va_Qi (fun (r : Int32) (u : KS × TAU × (Nat → Nat)) => ((r, u.1) = doR κ hd th 51 xa xb xc ∧ ∃ v, u.2.1 = (τ.1, τ.2.1, v, τ.2.2.2) ∧ (r = 0 → v = nxt κ 51 xa xb τ.2.2.1)) ∧ ∀ i, lvX κ i → u.2.2 i = ad i) (fun (u : KS × TAU × (Nat → Nat)) tt => rPo D (rA (wX q ad κ τ) sz) (wX q u.2.2 u.1 u.2.1) tt) (rA (wX q ad κ τ) sz)) (4 * g) (44 * g) (rA (wX q ad κ τ) sz) := by
  have hi0 : vp_in xa 8 := hs.1
  have hi1 : vp_in xb 8 := hs.2.1
  have hi2 : vp_in xc 8 := hs.2.2
  refine r_start (cc := cX4_perform) (maxL := 2) (ret := (some .int)) (by decide) rfl (Nat.le_of_ble_eq_true rfl) ?_
  intro p e s m below meth c ls hC hr hlk hnm hsz hw hl
  have hx := hC.1
  have hb := hC.2.1
  have hl : lv_has ls 2 [(0, .ref (ad 3)), (1, .ref (ad ρ))] := hl
  refine lv_aload_n hx hb dX4_perform_0 rfl (lv_at hl 1 rfl) ?_
  refine r_get hC hw rk5 in_X4_perform_5 ρ hst.1 hst.2 0 (by decide) lk_X4_perform_95 (v := .int 51) rfl dX4_perform_1 ?_
  refine lv_iconst (v := 1) hx hb dX4_perform_4 (by decide) ?_
  refine lv_icmp_lt (tgt := 26) hx hb dX4_perform_5 (by decide) (fun c_ => absurd c_ (by decide)) (fun _ => ?_)
  refine lv_aload_n hx hb dX4_perform_8 rfl (lv_at hl 1 rfl) ?_
  refine r_get hC hw rk5 in_X4_perform_5 ρ hst.1 hst.2 0 (by decide) lk_X4_perform_95 (v := .int 51) rfl dX4_perform_9 ?_
  refine lv_bipush (v := 26) hx hb dX4_perform_12 (by decide) ?_
  refine lv_icmp_gt (tgt := 26) hx hb dX4_perform_14 (by decide) (fun _ => ?_) (fun c_ => absurd (by decide) c_)
  refine lv_aload_n hx hb dX4_perform_26 rfl (lv_at hl 1 rfl) ?_
  refine r_get hC hw rk5 in_X4_perform_5 ρ hst.1 hst.2 0 (by decide) lk_X4_perform_95 (v := .int 51) rfl dX4_perform_27 ?_
  refine lv_lookup (off := 211) (tgt := 241) hx hb dX4_perform_30 (by decide) (by decide) (by decide) ?_
  refine lv_aload_n hx hb dX4_perform_241 rfl (lv_at hl 0 rfl) ?_
  refine r_get hC hw rk4 in_X4_perform_4 3 (wXl 3 (by decide)) wXc3 3 (by decide) lk_X4_perform_31 (v := .ref (ad 5)) rfl dX4_perform_242 ?_
  refine lv_aload_n hx hb dX4_perform_245 rfl (lv_at hl 1 rfl) ?_
  refine r_ki hw (r_runV (rest := []) hC hw 5 (c_X7_weave_51 l _ ρ xa xb xc hd th hst hs hX (nn_FB hB 51 _ _ _ (by decide) (by decide))) rk7 (wXl 5 (by decide)) wXc5 1 gX4_perform_X7_weave rfl rfl rfl (by decide +kernel) ⟨Nat.le_of_ble_eq_true rfl, Nat.le_of_ble_eq_true rfl⟩ rfl hl.1 rfl (Nat.le_of_ble_eq_true rfl) dX4_perform_246 ⟨Nat.le_of_ble_eq_true rfl, Nat.le_of_ble_eq_true rfl⟩) (fun r_2 u_3 H locs h_1 hw => ?_)
  exact r_iret hC hr hlk hw (u_3, τ, ad) rfl ⟨⟨h_1, τ.2.2.1, rfl, fun _ => rfl⟩, fun _ _ => rfl⟩ (show _ ≤ 4 * g by omega) (show _ ≤ 44 * g by omega) dX4_perform_249

set_option maxHeartbeats 4000000 in
set_option maxRecDepth 100000 in
theorem c_X4_perform_52 (l : Launch) {D : va_G} {q : Nat → ClassId} {ad : Nat → Nat} {κ : KS} {τ : TAU} (sz : Nat) (ρ : Nat) (xa xb xc hd th : Int32) (hst : stepAt q ad κ τ ρ 52 xa xb xc) (hs : okStep 52 xa xb xc)(hX : WFx κ) (hm : vp_in (sI κ 2) 61) (hF : WFa κ τ (aN (sI κ 2))) (hρ : 400 ≤ ρ) (hB : FB κ) (hc6 : ∃ n, n ≤ 12 ∧ sI κ 6 = nI n) (hT : ¬ sI κ 7 < 0) (hhd : hd = sI κ 9) (hth : τ.2.2.2 = rT th) (hthv : ¬ th = 0 → aN (th - 1) < aN (sI κ 2)) (g : Nat) (hg : why κ 52 xa xb xc = 0 → mkN κ 52 xb ≤ g) : Met l yX4_perform wsX4_perform (rmc 4 99 (4 * g) (44 * g)) (va_Pc [.ref (ad 3), .ref (ad ρ)] (rPre D q (wX q ad κ τ) sz)) (va_Qi (fun (r : Int32) (u : KS × TAU × (Nat → Nat)) => ((r, u.1) = doR κ hd th 52 xa xb xc ∧ ∃ v, u.2.1 = (τ.1, τ.2.1, v, τ.2.2.2) ∧ (r = 0 → v = nxt κ 52 xa xb τ.2.2.1)) ∧ ∀ i, lvX κ i → u.2.2 i = ad i) (fun (u : KS × TAU × (Nat → Nat)) tt => rPo D (rA (wX q ad κ τ) sz) (wX q u.2.2 u.1 u.2.1) tt) (rA (wX q ad κ τ) sz)) (4 * g) (44 * g) (rA (wX q ad κ τ) sz) := by
  have hi0 : vp_in xa 8 := hs.1
  have hi1 : vp_in xb 8 := hs.2.1
  have hi2 : vp_in xc 8 := hs.2.2
  refine r_start (cc := cX4_perform) (maxL := 2) (ret := (some .int)) (by decide) rfl (Nat.le_of_ble_eq_true rfl) ?_
  intro p e s m below meth c ls hC hr hlk hnm hsz hw hl
  have hx := hC.1
  have hb := hC.2.1
  have hl : lv_has ls 2 [(0, .ref (ad 3)), (1, .ref (ad ρ))] := hl
  refine lv_aload_n hx hb dX4_perform_0 rfl (lv_at hl 1 rfl) ?_
  refine r_get hC hw rk5 in_X4_perform_5 ρ hst.1 hst.2 0 (by decide) lk_X4_perform_95 (v := .int 52) rfl dX4_perform_1 ?_
  refine lv_iconst (v := 1) hx hb dX4_perform_4 (by decide) ?_
  refine lv_icmp_lt (tgt := 26) hx hb dX4_perform_5 (by decide) (fun c_ => absurd c_ (by decide)) (fun _ => ?_)
  refine lv_aload_n hx hb dX4_perform_8 rfl (lv_at hl 1 rfl) ?_
  refine r_get hC hw rk5 in_X4_perform_5 ρ hst.1 hst.2 0 (by decide) lk_X4_perform_95 (v := .int 52) rfl dX4_perform_9 ?_
  refine lv_bipush (v := 26) hx hb dX4_perform_12 (by decide) ?_
  refine lv_icmp_gt (tgt := 26) hx hb dX4_perform_14 (by decide) (fun _ => ?_) (fun c_ => absurd (by decide) c_)
  refine lv_aload_n hx hb dX4_perform_26 rfl (lv_at hl 1 rfl) ?_
  refine r_get hC hw rk5 in_X4_perform_5 ρ hst.1 hst.2 0 (by decide) lk_X4_perform_95 (v := .int 52) rfl dX4_perform_27 ?_
  refine lv_lookup (off := 211) (tgt := 241) hx hb dX4_perform_30 (by decide) (by decide) (by decide) ?_
  refine lv_aload_n hx hb dX4_perform_241 rfl (lv_at hl 0 rfl) ?_
  refine r_get hC hw rk4 in_X4_perform_4 3 (wXl 3 (by decide)) wXc3 3 (by decide) lk_X4_perform_31 (v := .ref (ad 5)) rfl dX4_perform_242 ?_
  refine lv_aload_n hx hb dX4_perform_245 rfl (lv_at hl 1 rfl) ?_
  refine r_ki hw (r_runV (rest := []) hC hw 5 (c_X7_weave_52 l _ ρ xa xb xc hd th hst hs hX (nn_FB hB 52 _ _ _ (by decide) (by decide))) rk7 (wXl 5 (by decide)) wXc5 1 gX4_perform_X7_weave rfl rfl rfl (by decide +kernel) ⟨Nat.le_of_ble_eq_true rfl, Nat.le_of_ble_eq_true rfl⟩ rfl hl.1 rfl (Nat.le_of_ble_eq_true rfl) dX4_perform_246 ⟨Nat.le_of_ble_eq_true rfl, Nat.le_of_ble_eq_true rfl⟩) (fun r_2 u_3 H locs h_1 hw => ?_)
  exact r_iret hC hr hlk hw (u_3, τ, ad) rfl ⟨⟨h_1, τ.2.2.1, rfl, fun _ => rfl⟩, fun _ _ => rfl⟩ (show _ ≤ 4 * g by omega) (show _ ≤ 44 * g by omega) dX4_perform_249

set_option maxHeartbeats 4000000 in
set_option maxRecDepth 100000 in
theorem c_X4_perform_53 (l : Launch) {D : va_G} {q : Nat → ClassId} {ad : Nat → Nat} {κ : KS} {τ : TAU} (sz : Nat) (ρ : Nat) (xa xb xc hd th : Int32) (hst : stepAt q ad κ τ ρ 53 xa xb xc) (hs : okStep 53 xa xb xc)(hX : WFx κ) (hm : vp_in (sI κ 2) 61) (hF : WFa κ τ (aN (sI κ 2))) (hρ : 400 ≤ ρ) (hB : FB κ) (hc6 : ∃ n, n ≤ 12 ∧ sI κ 6 = nI n) (hT : ¬ sI κ 7 < 0) (hhd : hd = sI κ 9) (hth : τ.2.2.2 = rT th) (hthv : ¬ th = 0 → aN (th - 1) < aN (sI κ 2)) (g : Nat) (hg : why κ 53 xa xb xc = 0 → mkN κ 53 xb ≤ g) : Met l yX4_perform wsX4_perform (rmc 4 99 (4 * g) (44 * g)) (va_Pc [.ref (ad 3), .ref (ad ρ)] (rPre D q (wX q ad κ τ) sz)) (va_Qi (fun (r : Int32) (u : KS × TAU × (Nat → Nat)) => ((r, u.1) = doR κ hd th 53 xa xb xc ∧ ∃ v, u.2.1 = (τ.1, τ.2.1, v, τ.2.2.2) ∧ (r = 0 → v = nxt κ 53 xa xb τ.2.2.1)) ∧ ∀ i, lvX κ i → u.2.2 i = ad i) (fun (u : KS × TAU × (Nat → Nat)) tt => rPo D (rA (wX q ad κ τ) sz) (wX q u.2.2 u.1 u.2.1) tt) (rA (wX q ad κ τ) sz)) (4 * g) (44 * g) (rA (wX q ad κ τ) sz) := by
  have hi0 : vp_in xa 8 := hs.1
  have hi1 : vp_in xb 8 := hs.2.1
  have hi2 : vp_in xc 8 := hs.2.2
  refine r_start (cc := cX4_perform) (maxL := 2) (ret := (some .int)) (by decide) rfl (Nat.le_of_ble_eq_true rfl) ?_
  intro p e s m below meth c ls hC hr hlk hnm hsz hw hl
  have hx := hC.1
  have hb := hC.2.1
  have hl : lv_has ls 2 [(0, .ref (ad 3)), (1, .ref (ad ρ))] := hl
  refine lv_aload_n hx hb dX4_perform_0 rfl (lv_at hl 1 rfl) ?_
  refine r_get hC hw rk5 in_X4_perform_5 ρ hst.1 hst.2 0 (by decide) lk_X4_perform_95 (v := .int 53) rfl dX4_perform_1 ?_
  refine lv_iconst (v := 1) hx hb dX4_perform_4 (by decide) ?_
  refine lv_icmp_lt (tgt := 26) hx hb dX4_perform_5 (by decide) (fun c_ => absurd c_ (by decide)) (fun _ => ?_)
  refine lv_aload_n hx hb dX4_perform_8 rfl (lv_at hl 1 rfl) ?_
  refine r_get hC hw rk5 in_X4_perform_5 ρ hst.1 hst.2 0 (by decide) lk_X4_perform_95 (v := .int 53) rfl dX4_perform_9 ?_
  refine lv_bipush (v := 26) hx hb dX4_perform_12 (by decide) ?_
  refine lv_icmp_gt (tgt := 26) hx hb dX4_perform_14 (by decide) (fun _ => ?_) (fun c_ => absurd (by decide) c_)
  refine lv_aload_n hx hb dX4_perform_26 rfl (lv_at hl 1 rfl) ?_
  refine r_get hC hw rk5 in_X4_perform_5 ρ hst.1 hst.2 0 (by decide) lk_X4_perform_95 (v := .int 53) rfl dX4_perform_27 ?_
  refine lv_lookup (off := 211) (tgt := 241) hx hb dX4_perform_30 (by decide) (by decide) (by decide) ?_
  refine lv_aload_n hx hb dX4_perform_241 rfl (lv_at hl 0 rfl) ?_
  refine r_get hC hw rk4 in_X4_perform_4 3 (wXl 3 (by decide)) wXc3 3 (by decide) lk_X4_perform_31 (v := .ref (ad 5)) rfl dX4_perform_242 ?_
  refine lv_aload_n hx hb dX4_perform_245 rfl (lv_at hl 1 rfl) ?_
  refine r_ki hw (r_runV (rest := []) hC hw 5 (c_X7_weave_53 l _ ρ xa xb xc hd th hst hs hX (nn_FB hB 53 _ _ _ (by decide) (by decide))) rk7 (wXl 5 (by decide)) wXc5 1 gX4_perform_X7_weave rfl rfl rfl (by decide +kernel) ⟨Nat.le_of_ble_eq_true rfl, Nat.le_of_ble_eq_true rfl⟩ rfl hl.1 rfl (Nat.le_of_ble_eq_true rfl) dX4_perform_246 ⟨Nat.le_of_ble_eq_true rfl, Nat.le_of_ble_eq_true rfl⟩) (fun r_2 u_3 H locs h_1 hw => ?_)
  exact r_iret hC hr hlk hw (u_3, τ, ad) rfl ⟨⟨h_1, τ.2.2.1, rfl, fun _ => rfl⟩, fun _ _ => rfl⟩ (show _ ≤ 4 * g by omega) (show _ ≤ 44 * g by omega) dX4_perform_249

set_option maxHeartbeats 4000000 in
set_option maxRecDepth 100000 in
theorem c_X4_perform_54 (l : Launch) {D : va_G} {q : Nat → ClassId} {ad : Nat → Nat} {κ : KS} {τ : TAU} (sz : Nat) (ρ : Nat) (xa xb xc hd th : Int32) (hst : stepAt q ad κ τ ρ 54 xa xb xc) (hs : okStep 54 xa xb xc)(hX : WFx κ) (hm : vp_in (sI κ 2) 61) (hF : WFa κ τ (aN (sI κ 2))) (hρ : 400 ≤ ρ) (hB : FB κ) (hc6 : ∃ n, n ≤ 12 ∧ sI κ 6 = nI n) (hT : ¬ sI κ 7 < 0) (hhd : hd = sI κ 9) (hth : τ.2.2.2 = rT th) (hthv : ¬ th = 0 → aN (th - 1) < aN (sI κ 2)) (g : Nat) (hg : why κ 54 xa xb xc = 0 → mkN κ 54 xb ≤ g) : Met l yX4_perform wsX4_perform (rmc 4 99 (4 * g) (44 * g)) (va_Pc [.ref (ad 3), .ref (ad ρ)] (rPre D q (wX q ad κ τ) sz)) (va_Qi (fun (r : Int32) (u : KS × TAU × (Nat → Nat)) => ((r, u.1) = doR κ hd th 54 xa xb xc ∧ ∃ v, u.2.1 = (τ.1, τ.2.1, v, τ.2.2.2) ∧ (r = 0 → v = nxt κ 54 xa xb τ.2.2.1)) ∧ ∀ i, lvX κ i → u.2.2 i = ad i) (fun (u : KS × TAU × (Nat → Nat)) tt => rPo D (rA (wX q ad κ τ) sz) (wX q u.2.2 u.1 u.2.1) tt) (rA (wX q ad κ τ) sz)) (4 * g) (44 * g) (rA (wX q ad κ τ) sz) := by
  have hi0 : vp_in xa 4 := hs.1
  have hi1 : vp_in xb 8 := hs.2.1
  have hi2 : vp_in xc 8 := hs.2.2
  refine r_start (cc := cX4_perform) (maxL := 2) (ret := (some .int)) (by decide) rfl (Nat.le_of_ble_eq_true rfl) ?_
  intro p e s m below meth c ls hC hr hlk hnm hsz hw hl
  have hx := hC.1
  have hb := hC.2.1
  have hl : lv_has ls 2 [(0, .ref (ad 3)), (1, .ref (ad ρ))] := hl
  refine lv_aload_n hx hb dX4_perform_0 rfl (lv_at hl 1 rfl) ?_
  refine r_get hC hw rk5 in_X4_perform_5 ρ hst.1 hst.2 0 (by decide) lk_X4_perform_95 (v := .int 54) rfl dX4_perform_1 ?_
  refine lv_iconst (v := 1) hx hb dX4_perform_4 (by decide) ?_
  refine lv_icmp_lt (tgt := 26) hx hb dX4_perform_5 (by decide) (fun c_ => absurd c_ (by decide)) (fun _ => ?_)
  refine lv_aload_n hx hb dX4_perform_8 rfl (lv_at hl 1 rfl) ?_
  refine r_get hC hw rk5 in_X4_perform_5 ρ hst.1 hst.2 0 (by decide) lk_X4_perform_95 (v := .int 54) rfl dX4_perform_9 ?_
  refine lv_bipush (v := 26) hx hb dX4_perform_12 (by decide) ?_
  refine lv_icmp_gt (tgt := 26) hx hb dX4_perform_14 (by decide) (fun _ => ?_) (fun c_ => absurd (by decide) c_)
  refine lv_aload_n hx hb dX4_perform_26 rfl (lv_at hl 1 rfl) ?_
  refine r_get hC hw rk5 in_X4_perform_5 ρ hst.1 hst.2 0 (by decide) lk_X4_perform_95 (v := .int 54) rfl dX4_perform_27 ?_
  refine lv_lookup (off := 211) (tgt := 241) hx hb dX4_perform_30 (by decide) (by decide) (by decide) ?_
  refine lv_aload_n hx hb dX4_perform_241 rfl (lv_at hl 0 rfl) ?_
  refine r_get hC hw rk4 in_X4_perform_4 3 (wXl 3 (by decide)) wXc3 3 (by decide) lk_X4_perform_31 (v := .ref (ad 5)) rfl dX4_perform_242 ?_
  refine lv_aload_n hx hb dX4_perform_245 rfl (lv_at hl 1 rfl) ?_
  refine r_ki hw (r_runV (rest := []) hC hw 5 (c_X7_weave_54 l _ ρ xa xb xc hd th hst hs hX (nn_FB hB 54 _ _ _ (by decide) (by decide))) rk7 (wXl 5 (by decide)) wXc5 1 gX4_perform_X7_weave rfl rfl rfl (by decide +kernel) ⟨Nat.le_of_ble_eq_true rfl, Nat.le_of_ble_eq_true rfl⟩ rfl hl.1 rfl (Nat.le_of_ble_eq_true rfl) dX4_perform_246 ⟨Nat.le_of_ble_eq_true rfl, Nat.le_of_ble_eq_true rfl⟩) (fun r_2 u_3 H locs h_1 hw => ?_)
  exact r_iret hC hr hlk hw (u_3, τ, ad) rfl ⟨⟨h_1, τ.2.2.1, rfl, fun _ => rfl⟩, fun _ _ => rfl⟩ (show _ ≤ 4 * g by omega) (show _ ≤ 44 * g by omega) dX4_perform_249

set_option maxHeartbeats 4000000 in
set_option maxRecDepth 100000 in
theorem c_X4_perform_55 (l : Launch) {D : va_G} {q : Nat → ClassId} {ad : Nat → Nat} {κ : KS} {τ : TAU} (sz : Nat) (ρ : Nat) (xa xb xc hd th : Int32) (hst : stepAt q ad κ τ ρ 55 xa xb xc) (hs : okStep 55 xa xb xc)(hX : WFx κ) (hm : vp_in (sI κ 2) 61) (hF : WFa κ τ (aN (sI κ 2))) (hρ : 400 ≤ ρ) (hB : FB κ) (hc6 : ∃ n, n ≤ 12 ∧ sI κ 6 = nI n) (hT : ¬ sI κ 7 < 0) (hhd : hd = sI κ 9) (hth : τ.2.2.2 = rT th) (hthv : ¬ th = 0 → aN (th - 1) < aN (sI κ 2)) (g : Nat) (hg : why κ 55 xa xb xc = 0 → mkN κ 55 xb ≤ g) : Met l yX4_perform wsX4_perform (rmc 4 99 (4 * g) (44 * g)) (va_Pc [.ref (ad 3), .ref (ad ρ)] (rPre D q (wX q ad κ τ) sz)) (va_Qi (fun (r : Int32) (u : KS × TAU × (Nat → Nat)) => ((r, u.1) = doR κ hd th 55 xa xb xc ∧ ∃ v, u.2.1 = (τ.1, τ.2.1, v, τ.2.2.2) ∧ (r = 0 → v = nxt κ 55 xa xb τ.2.2.1)) ∧ ∀ i, lvX κ i → u.2.2 i = ad i) (fun (u : KS × TAU × (Nat → Nat)) tt => rPo D (rA (wX q ad κ τ) sz) (wX q u.2.2 u.1 u.2.1) tt) (rA (wX q ad κ τ) sz)) (4 * g) (44 * g) (rA (wX q ad κ τ) sz) := by
  have hi0 : vp_in xa 4 := hs.1
  have hi1 : vp_in xb 8 := hs.2.1
  have hi2 : vp_in xc 8 := hs.2.2
  refine r_start (cc := cX4_perform) (maxL := 2) (ret := (some .int)) (by decide) rfl (Nat.le_of_ble_eq_true rfl) ?_
  intro p e s m below meth c ls hC hr hlk hnm hsz hw hl
  have hx := hC.1
  have hb := hC.2.1
  have hl : lv_has ls 2 [(0, .ref (ad 3)), (1, .ref (ad ρ))] := hl
  refine lv_aload_n hx hb dX4_perform_0 rfl (lv_at hl 1 rfl) ?_
  refine r_get hC hw rk5 in_X4_perform_5 ρ hst.1 hst.2 0 (by decide) lk_X4_perform_95 (v := .int 55) rfl dX4_perform_1 ?_
  refine lv_iconst (v := 1) hx hb dX4_perform_4 (by decide) ?_
  refine lv_icmp_lt (tgt := 26) hx hb dX4_perform_5 (by decide) (fun c_ => absurd c_ (by decide)) (fun _ => ?_)
  refine lv_aload_n hx hb dX4_perform_8 rfl (lv_at hl 1 rfl) ?_
  refine r_get hC hw rk5 in_X4_perform_5 ρ hst.1 hst.2 0 (by decide) lk_X4_perform_95 (v := .int 55) rfl dX4_perform_9 ?_
  refine lv_bipush (v := 26) hx hb dX4_perform_12 (by decide) ?_
  refine lv_icmp_gt (tgt := 26) hx hb dX4_perform_14 (by decide) (fun _ => ?_) (fun c_ => absurd (by decide) c_)
  refine lv_aload_n hx hb dX4_perform_26 rfl (lv_at hl 1 rfl) ?_
  refine r_get hC hw rk5 in_X4_perform_5 ρ hst.1 hst.2 0 (by decide) lk_X4_perform_95 (v := .int 55) rfl dX4_perform_27 ?_
  refine lv_lookup (off := 211) (tgt := 241) hx hb dX4_perform_30 (by decide) (by decide) (by decide) ?_
  refine lv_aload_n hx hb dX4_perform_241 rfl (lv_at hl 0 rfl) ?_
  refine r_get hC hw rk4 in_X4_perform_4 3 (wXl 3 (by decide)) wXc3 3 (by decide) lk_X4_perform_31 (v := .ref (ad 5)) rfl dX4_perform_242 ?_
  refine lv_aload_n hx hb dX4_perform_245 rfl (lv_at hl 1 rfl) ?_
  refine r_ki hw (r_runV (rest := []) hC hw 5 (c_X7_weave_55 l _ ρ xa xb xc hd th hst hs hX (nn_FB hB 55 _ _ _ (by decide) (by decide))) rk7 (wXl 5 (by decide)) wXc5 1 gX4_perform_X7_weave rfl rfl rfl (by decide +kernel) ⟨Nat.le_of_ble_eq_true rfl, Nat.le_of_ble_eq_true rfl⟩ rfl hl.1 rfl (Nat.le_of_ble_eq_true rfl) dX4_perform_246 ⟨Nat.le_of_ble_eq_true rfl, Nat.le_of_ble_eq_true rfl⟩) (fun r_2 u_3 H locs h_1 hw => ?_)
  exact r_iret hC hr hlk hw (u_3, τ, ad) rfl ⟨⟨h_1, τ.2.2.1, rfl, fun _ => rfl⟩, fun _ _ => rfl⟩ (show _ ≤ 4 * g by omega) (show _ ≤ 44 * g by omega) dX4_perform_249

set_option maxHeartbeats 4000000 in
set_option maxRecDepth 100000 in
theorem c_X4_perform_56 (l : Launch) {D : va_G} {q : Nat → ClassId} {ad : Nat → Nat} {κ : KS} {τ : TAU} (sz : Nat) (ρ : Nat) (xa xb xc hd th : Int32) (hst : stepAt q ad κ τ ρ 56 xa xb xc) (hs : okStep 56 xa xb xc)(hX : WFx κ) (hm : vp_in (sI κ 2) 61) (hF : WFa κ τ (aN (sI κ 2))) (hρ : 400 ≤ ρ) (hB : FB κ) (hc6 : ∃ n, n ≤ 12 ∧ sI κ 6 = nI n) (hT : ¬ sI κ 7 < 0) (hhd : hd = sI κ 9) (hth : τ.2.2.2 = rT th) (hthv : ¬ th = 0 → aN (th - 1) < aN (sI κ 2)) (g : Nat) (hg : why κ 56 xa xb xc = 0 → mkN κ 56 xb ≤ g) : Met l yX4_perform wsX4_perform (rmc 4 99 (4 * g) (44 * g)) (va_Pc [.ref (ad 3), .ref (ad ρ)] (rPre D q (wX q ad κ τ) sz)) (va_Qi (fun (r : Int32) (u : KS × TAU × (Nat → Nat)) => ((r, u.1) = doR κ hd th 56 xa xb xc ∧ ∃ v, u.2.1 = (τ.1, τ.2.1, v, τ.2.2.2) ∧ (r = 0 → v = nxt κ 56 xa xb τ.2.2.1)) ∧ ∀ i, lvX κ i → u.2.2 i = ad i) (fun (u : KS × TAU × (Nat → Nat)) tt => rPo D (rA (wX q ad κ τ) sz) (wX q u.2.2 u.1 u.2.1) tt) (rA (wX q ad κ τ) sz)) (4 * g) (44 * g) (rA (wX q ad κ τ) sz) := by
  have hi0 : vp_in xa 4 := hs.1
  have hi1 : vp_in xb 8 := hs.2.1
  have hi2 : vp_in xc 8 := hs.2.2
  refine r_start (cc := cX4_perform) (maxL := 2) (ret := (some .int)) (by decide) rfl (Nat.le_of_ble_eq_true rfl) ?_
  intro p e s m below meth c ls hC hr hlk hnm hsz hw hl
  have hx := hC.1
  have hb := hC.2.1
  have hl : lv_has ls 2 [(0, .ref (ad 3)), (1, .ref (ad ρ))] := hl
  refine lv_aload_n hx hb dX4_perform_0 rfl (lv_at hl 1 rfl) ?_
  refine r_get hC hw rk5 in_X4_perform_5 ρ hst.1 hst.2 0 (by decide) lk_X4_perform_95 (v := .int 56) rfl dX4_perform_1 ?_
  refine lv_iconst (v := 1) hx hb dX4_perform_4 (by decide) ?_
  refine lv_icmp_lt (tgt := 26) hx hb dX4_perform_5 (by decide) (fun c_ => absurd c_ (by decide)) (fun _ => ?_)
  refine lv_aload_n hx hb dX4_perform_8 rfl (lv_at hl 1 rfl) ?_
  refine r_get hC hw rk5 in_X4_perform_5 ρ hst.1 hst.2 0 (by decide) lk_X4_perform_95 (v := .int 56) rfl dX4_perform_9 ?_
  refine lv_bipush (v := 26) hx hb dX4_perform_12 (by decide) ?_
  refine lv_icmp_gt (tgt := 26) hx hb dX4_perform_14 (by decide) (fun _ => ?_) (fun c_ => absurd (by decide) c_)
  refine lv_aload_n hx hb dX4_perform_26 rfl (lv_at hl 1 rfl) ?_
  refine r_get hC hw rk5 in_X4_perform_5 ρ hst.1 hst.2 0 (by decide) lk_X4_perform_95 (v := .int 56) rfl dX4_perform_27 ?_
  refine lv_lookup (off := 211) (tgt := 241) hx hb dX4_perform_30 (by decide) (by decide) (by decide) ?_
  refine lv_aload_n hx hb dX4_perform_241 rfl (lv_at hl 0 rfl) ?_
  refine r_get hC hw rk4 in_X4_perform_4 3 (wXl 3 (by decide)) wXc3 3 (by decide) lk_X4_perform_31 (v := .ref (ad 5)) rfl dX4_perform_242 ?_
  refine lv_aload_n hx hb dX4_perform_245 rfl (lv_at hl 1 rfl) ?_
  refine r_ki hw (r_runV (rest := []) hC hw 5 (c_X7_weave_56 l _ ρ xa xb xc hd th hst hs hX (nn_FB hB 56 _ _ _ (by decide) (by decide))) rk7 (wXl 5 (by decide)) wXc5 1 gX4_perform_X7_weave rfl rfl rfl (by decide +kernel) ⟨Nat.le_of_ble_eq_true rfl, Nat.le_of_ble_eq_true rfl⟩ rfl hl.1 rfl (Nat.le_of_ble_eq_true rfl) dX4_perform_246 ⟨Nat.le_of_ble_eq_true rfl, Nat.le_of_ble_eq_true rfl⟩) (fun r_2 u_3 H locs h_1 hw => ?_)
  exact r_iret hC hr hlk hw (u_3, τ, ad) rfl ⟨⟨h_1, τ.2.2.1, rfl, fun _ => rfl⟩, fun _ _ => rfl⟩ (show _ ≤ 4 * g by omega) (show _ ≤ 44 * g by omega) dX4_perform_249

set_option maxHeartbeats 4000000 in
set_option maxRecDepth 100000 in
theorem c_X4_perform_57 (l : Launch) {D : va_G} {q : Nat → ClassId} {ad : Nat → Nat} {κ : KS} {τ : TAU} (sz : Nat) (ρ : Nat) (xa xb xc hd th : Int32) (hst : stepAt q ad κ τ ρ 57 xa xb xc) (hs : okStep 57 xa xb xc)(hX : WFx κ) (hm : vp_in (sI κ 2) 61) (hF : WFa κ τ (aN (sI κ 2))) (hρ : 400 ≤ ρ) (hB : FB κ) (hc6 : ∃ n, n ≤ 12 ∧ sI κ 6 = nI n) (hT : ¬ sI κ 7 < 0) (hhd : hd = sI κ 9) (hth : τ.2.2.2 = rT th) (hthv : ¬ th = 0 → aN (th - 1) < aN (sI κ 2)) (g : Nat) (hg : why κ 57 xa xb xc = 0 → mkN κ 57 xb ≤ g) : Met l yX4_perform wsX4_perform (rmc 4 99 (4 * g) (44 * g)) (va_Pc [.ref (ad 3), .ref (ad ρ)] (rPre D q (wX q ad κ τ) sz)) (va_Qi (fun (r : Int32) (u : KS × TAU × (Nat → Nat)) => ((r, u.1) = doR κ hd th 57 xa xb xc ∧ ∃ v, u.2.1 = (τ.1, τ.2.1, v, τ.2.2.2) ∧ (r = 0 → v = nxt κ 57 xa xb τ.2.2.1)) ∧ ∀ i, lvX κ i → u.2.2 i = ad i) (fun (u : KS × TAU × (Nat → Nat)) tt => rPo D (rA (wX q ad κ τ) sz) (wX q u.2.2 u.1 u.2.1) tt) (rA (wX q ad κ τ) sz)) (4 * g) (44 * g) (rA (wX q ad κ τ) sz) := by
  have hi0 : vp_in xa 8 := hs.1
  have hi1 : vp_in xb 8 := hs.2.1
  have hi2 : vp_in xc 8 := hs.2.2
  refine r_start (cc := cX4_perform) (maxL := 2) (ret := (some .int)) (by decide) rfl (Nat.le_of_ble_eq_true rfl) ?_
  intro p e s m below meth c ls hC hr hlk hnm hsz hw hl
  have hx := hC.1
  have hb := hC.2.1
  have hl : lv_has ls 2 [(0, .ref (ad 3)), (1, .ref (ad ρ))] := hl
  refine lv_aload_n hx hb dX4_perform_0 rfl (lv_at hl 1 rfl) ?_
  refine r_get hC hw rk5 in_X4_perform_5 ρ hst.1 hst.2 0 (by decide) lk_X4_perform_95 (v := .int 57) rfl dX4_perform_1 ?_
  refine lv_iconst (v := 1) hx hb dX4_perform_4 (by decide) ?_
  refine lv_icmp_lt (tgt := 26) hx hb dX4_perform_5 (by decide) (fun c_ => absurd c_ (by decide)) (fun _ => ?_)
  refine lv_aload_n hx hb dX4_perform_8 rfl (lv_at hl 1 rfl) ?_
  refine r_get hC hw rk5 in_X4_perform_5 ρ hst.1 hst.2 0 (by decide) lk_X4_perform_95 (v := .int 57) rfl dX4_perform_9 ?_
  refine lv_bipush (v := 26) hx hb dX4_perform_12 (by decide) ?_
  refine lv_icmp_gt (tgt := 26) hx hb dX4_perform_14 (by decide) (fun _ => ?_) (fun c_ => absurd (by decide) c_)
  refine lv_aload_n hx hb dX4_perform_26 rfl (lv_at hl 1 rfl) ?_
  refine r_get hC hw rk5 in_X4_perform_5 ρ hst.1 hst.2 0 (by decide) lk_X4_perform_95 (v := .int 57) rfl dX4_perform_27 ?_
  refine lv_lookup (off := 211) (tgt := 241) hx hb dX4_perform_30 (by decide) (by decide) (by decide) ?_
  refine lv_aload_n hx hb dX4_perform_241 rfl (lv_at hl 0 rfl) ?_
  refine r_get hC hw rk4 in_X4_perform_4 3 (wXl 3 (by decide)) wXc3 3 (by decide) lk_X4_perform_31 (v := .ref (ad 5)) rfl dX4_perform_242 ?_
  refine lv_aload_n hx hb dX4_perform_245 rfl (lv_at hl 1 rfl) ?_
  refine r_ki hw (r_runV (rest := []) hC hw 5 (c_X7_weave_57 l _ ρ xa xb xc hd th hst hs hX (nn_FB hB 57 _ _ _ (by decide) (by decide))) rk7 (wXl 5 (by decide)) wXc5 1 gX4_perform_X7_weave rfl rfl rfl (by decide +kernel) ⟨Nat.le_of_ble_eq_true rfl, Nat.le_of_ble_eq_true rfl⟩ rfl hl.1 rfl (Nat.le_of_ble_eq_true rfl) dX4_perform_246 ⟨Nat.le_of_ble_eq_true rfl, Nat.le_of_ble_eq_true rfl⟩) (fun r_2 u_3 H locs h_1 hw => ?_)
  exact r_iret hC hr hlk hw (u_3, τ, ad) rfl ⟨⟨h_1, τ.2.2.1, rfl, fun _ => rfl⟩, fun _ _ => rfl⟩ (show _ ≤ 4 * g by omega) (show _ ≤ 44 * g by omega) dX4_perform_249

set_option maxHeartbeats 4000000 in
set_option maxRecDepth 100000 in
theorem c_X4_perform_58 (l : Launch) {D : va_G} {q : Nat → ClassId} {ad : Nat → Nat} {κ : KS} {τ : TAU} (sz : Nat) (ρ : Nat) (xa xb xc hd th : Int32) (hst : stepAt q ad κ τ ρ 58 xa xb xc) (hs : okStep 58 xa xb xc)(hX : WFx κ) (hm : vp_in (sI κ 2) 61) (hF : WFa κ τ (aN (sI κ 2))) (hρ : 400 ≤ ρ) (hB : FB κ) (hc6 : ∃ n, n ≤ 12 ∧ sI κ 6 = nI n) (hT : ¬ sI κ 7 < 0) (hhd : hd = sI κ 9) (hth : τ.2.2.2 = rT th) (hthv : ¬ th = 0 → aN (th - 1) < aN (sI κ 2)) (g : Nat) (hg : why κ 58 xa xb xc = 0 → mkN κ 58 xb ≤ g) : Met l yX4_perform wsX4_perform (rmc 4 99 (4 * g) (44 * g)) (va_Pc [.ref (ad 3), .ref (ad ρ)] (rPre D q (wX q ad κ τ) sz)) (va_Qi (fun (r : Int32) (u : KS × TAU × (Nat → Nat)) => ((r, u.1) = doR κ hd th 58 xa xb xc ∧ ∃ v, u.2.1 = (τ.1, τ.2.1, v, τ.2.2.2) ∧ (r = 0 → v = nxt κ 58 xa xb τ.2.2.1)) ∧ ∀ i, lvX κ i → u.2.2 i = ad i) (fun (u : KS × TAU × (Nat → Nat)) tt => rPo D (rA (wX q ad κ τ) sz) (wX q u.2.2 u.1 u.2.1) tt) (rA (wX q ad κ τ) sz)) (4 * g) (44 * g) (rA (wX q ad κ τ) sz) := by
  have hi0 : vp_in xa 8 := hs.1
  have hi1 : vp_in xb 8 := hs.2.1
  have hi2 : vp_in xc 8 := hs.2.2
  refine r_start (cc := cX4_perform) (maxL := 2) (ret := (some .int)) (by decide) rfl (Nat.le_of_ble_eq_true rfl) ?_
  intro p e s m below meth c ls hC hr hlk hnm hsz hw hl
  have hx := hC.1
  have hb := hC.2.1
  have hl : lv_has ls 2 [(0, .ref (ad 3)), (1, .ref (ad ρ))] := hl
  refine lv_aload_n hx hb dX4_perform_0 rfl (lv_at hl 1 rfl) ?_
  refine r_get hC hw rk5 in_X4_perform_5 ρ hst.1 hst.2 0 (by decide) lk_X4_perform_95 (v := .int 58) rfl dX4_perform_1 ?_
  refine lv_iconst (v := 1) hx hb dX4_perform_4 (by decide) ?_
  refine lv_icmp_lt (tgt := 26) hx hb dX4_perform_5 (by decide) (fun c_ => absurd c_ (by decide)) (fun _ => ?_)
  refine lv_aload_n hx hb dX4_perform_8 rfl (lv_at hl 1 rfl) ?_
  refine r_get hC hw rk5 in_X4_perform_5 ρ hst.1 hst.2 0 (by decide) lk_X4_perform_95 (v := .int 58) rfl dX4_perform_9 ?_
  refine lv_bipush (v := 26) hx hb dX4_perform_12 (by decide) ?_
  refine lv_icmp_gt (tgt := 26) hx hb dX4_perform_14 (by decide) (fun _ => ?_) (fun c_ => absurd (by decide) c_)
  refine lv_aload_n hx hb dX4_perform_26 rfl (lv_at hl 1 rfl) ?_
  refine r_get hC hw rk5 in_X4_perform_5 ρ hst.1 hst.2 0 (by decide) lk_X4_perform_95 (v := .int 58) rfl dX4_perform_27 ?_
  refine lv_lookup (off := 211) (tgt := 241) hx hb dX4_perform_30 (by decide) (by decide) (by decide) ?_
  refine lv_aload_n hx hb dX4_perform_241 rfl (lv_at hl 0 rfl) ?_
  refine r_get hC hw rk4 in_X4_perform_4 3 (wXl 3 (by decide)) wXc3 3 (by decide) lk_X4_perform_31 (v := .ref (ad 5)) rfl dX4_perform_242 ?_
  refine lv_aload_n hx hb dX4_perform_245 rfl (lv_at hl 1 rfl) ?_
  refine r_ki hw (r_runV (rest := []) hC hw 5 (c_X7_weave_58 l _ ρ xa xb xc hd th hst hs hX (nn_FB hB 58 _ _ _ (by decide) (by decide))) rk7 (wXl 5 (by decide)) wXc5 1 gX4_perform_X7_weave rfl rfl rfl (by decide +kernel) ⟨Nat.le_of_ble_eq_true rfl, Nat.le_of_ble_eq_true rfl⟩ rfl hl.1 rfl (Nat.le_of_ble_eq_true rfl) dX4_perform_246 ⟨Nat.le_of_ble_eq_true rfl, Nat.le_of_ble_eq_true rfl⟩) (fun r_2 u_3 H locs h_1 hw => ?_)
  exact r_iret hC hr hlk hw (u_3, τ, ad) rfl ⟨⟨h_1, τ.2.2.1, rfl, fun _ => rfl⟩, fun _ _ => rfl⟩ (show _ ≤ 4 * g by omega) (show _ ≤ 44 * g by omega) dX4_perform_249

set_option maxHeartbeats 4000000 in
set_option maxRecDepth 100000 in
theorem c_X4_perform_59 (l : Launch) {D : va_G} {q : Nat → ClassId} {ad : Nat → Nat} {κ : KS} {τ : TAU} (sz : Nat) (ρ : Nat) (xa xb xc hd th : Int32) (hst : stepAt q ad κ τ ρ 59 xa xb xc) (hs : okStep 59 xa xb xc)(hX : WFx κ) (hm : vp_in (sI κ 2) 61) (hF : WFa κ τ (aN (sI κ 2))) (hρ : 400 ≤ ρ) (hB : FB κ) (hc6 : ∃ n, n ≤ 12 ∧ sI κ 6 = nI n) (hT : ¬ sI κ 7 < 0) (hhd : hd = sI κ 9) (hth : τ.2.2.2 = rT th) (hthv : ¬ th = 0 → aN (th - 1) < aN (sI κ 2)) (g : Nat) (hg : why κ 59 xa xb xc = 0 → mkN κ 59 xb ≤ g) : Met l yX4_perform wsX4_perform (rmc 4 99 (4 * g) (44 * g)) (va_Pc [.ref (ad 3), .ref (ad ρ)] (rPre D q (wX q ad κ τ) sz)) (va_Qi (fun (r : Int32) (u : KS × TAU × (Nat → Nat)) => ((r, u.1) = doR κ hd th 59 xa xb xc ∧ ∃ v, u.2.1 = (τ.1, τ.2.1, v, τ.2.2.2) ∧ (r = 0 → v = nxt κ 59 xa xb τ.2.2.1)) ∧ ∀ i, lvX κ i → u.2.2 i = ad i) (fun (u : KS × TAU × (Nat → Nat)) tt => rPo D (rA (wX q ad κ τ) sz) (wX q u.2.2 u.1 u.2.1) tt) (rA (wX q ad κ τ) sz)) (4 * g) (44 * g) (rA (wX q ad κ τ) sz) := by
  have hi0 : vp_in xa 8 := hs.1
  have hi1 : vp_in xb 8 := hs.2.1
  refine r_start (cc := cX4_perform) (maxL := 2) (ret := (some .int)) (by decide) rfl (Nat.le_of_ble_eq_true rfl) ?_
  intro p e s m below meth c ls hC hr hlk hnm hsz hw hl
  have hx := hC.1
  have hb := hC.2.1
  have hl : lv_has ls 2 [(0, .ref (ad 3)), (1, .ref (ad ρ))] := hl
  refine lv_aload_n hx hb dX4_perform_0 rfl (lv_at hl 1 rfl) ?_
  refine r_get hC hw rk5 in_X4_perform_5 ρ hst.1 hst.2 0 (by decide) lk_X4_perform_95 (v := .int 59) rfl dX4_perform_1 ?_
  refine lv_iconst (v := 1) hx hb dX4_perform_4 (by decide) ?_
  refine lv_icmp_lt (tgt := 26) hx hb dX4_perform_5 (by decide) (fun c_ => absurd c_ (by decide)) (fun _ => ?_)
  refine lv_aload_n hx hb dX4_perform_8 rfl (lv_at hl 1 rfl) ?_
  refine r_get hC hw rk5 in_X4_perform_5 ρ hst.1 hst.2 0 (by decide) lk_X4_perform_95 (v := .int 59) rfl dX4_perform_9 ?_
  refine lv_bipush (v := 26) hx hb dX4_perform_12 (by decide) ?_
  refine lv_icmp_gt (tgt := 26) hx hb dX4_perform_14 (by decide) (fun _ => ?_) (fun c_ => absurd (by decide) c_)
  refine lv_aload_n hx hb dX4_perform_26 rfl (lv_at hl 1 rfl) ?_
  refine r_get hC hw rk5 in_X4_perform_5 ρ hst.1 hst.2 0 (by decide) lk_X4_perform_95 (v := .int 59) rfl dX4_perform_27 ?_
  refine lv_lookup (off := 211) (tgt := 241) hx hb dX4_perform_30 (by decide) (by decide) (by decide) ?_
  refine lv_aload_n hx hb dX4_perform_241 rfl (lv_at hl 0 rfl) ?_
  refine r_get hC hw rk4 in_X4_perform_4 3 (wXl 3 (by decide)) wXc3 3 (by decide) lk_X4_perform_31 (v := .ref (ad 5)) rfl dX4_perform_242 ?_
  refine lv_aload_n hx hb dX4_perform_245 rfl (lv_at hl 1 rfl) ?_
  refine r_ki hw (r_runV (rest := []) hC hw 5 (c_X7_weave_59 l _ ρ xa xb xc hd th hst hs hX (nn_FB hB 59 _ _ _ (by decide) (by decide))) rk7 (wXl 5 (by decide)) wXc5 1 gX4_perform_X7_weave rfl rfl rfl (by decide +kernel) ⟨Nat.le_of_ble_eq_true rfl, Nat.le_of_ble_eq_true rfl⟩ rfl hl.1 rfl (Nat.le_of_ble_eq_true rfl) dX4_perform_246 ⟨Nat.le_of_ble_eq_true rfl, Nat.le_of_ble_eq_true rfl⟩) (fun r_2 u_3 H locs h_1 hw => ?_)
  exact r_iret hC hr hlk hw (u_3, τ, ad) rfl ⟨⟨h_1, τ.2.2.1, rfl, fun _ => rfl⟩, fun _ _ => rfl⟩ (show _ ≤ 4 * g by omega) (show _ ≤ 44 * g by omega) dX4_perform_249

set_option maxHeartbeats 4000000 in
set_option maxRecDepth 100000 in
theorem c_X4_perform_60 (l : Launch) {D : va_G} {q : Nat → ClassId} {ad : Nat → Nat} {κ : KS} {τ : TAU} (sz : Nat) (ρ : Nat) (xa xb xc hd th : Int32) (hst : stepAt q ad κ τ ρ 60 xa xb xc) (hs : okStep 60 xa xb xc)(hX : WFx κ) (hm : vp_in (sI κ 2) 61) (hF : WFa κ τ (aN (sI κ 2))) (hρ : 400 ≤ ρ) (hB : FB κ) (hc6 : ∃ n, n ≤ 12 ∧ sI κ 6 = nI n) (hT : ¬ sI κ 7 < 0) (hhd : hd = sI κ 9) (hth : τ.2.2.2 = rT th) (hthv : ¬ th = 0 → aN (th - 1) < aN (sI κ 2)) (g : Nat) (hg : why κ 60 xa xb xc = 0 → mkN κ 60 xb ≤ g) : Met l yX4_perform wsX4_perform (rmc 4 99 (4 * g) (44 * g)) (va_Pc [.ref (ad 3), .ref (ad ρ)] (rPre D q (wX q ad κ τ) sz)) (va_Qi (fun (r : Int32) (u : KS × TAU × (Nat → Nat)) => ((r, u.1) = doR κ hd th 60 xa xb xc ∧ ∃ v, u.2.1 = (τ.1, τ.2.1, v, τ.2.2.2) ∧ (r = 0 → v = nxt κ 60 xa xb τ.2.2.1)) ∧ ∀ i, lvX κ i → u.2.2 i = ad i) (fun (u : KS × TAU × (Nat → Nat)) tt => rPo D (rA (wX q ad κ τ) sz) (wX q u.2.2 u.1 u.2.1) tt) (rA (wX q ad κ τ) sz)) (4 * g) (44 * g) (rA (wX q ad κ τ) sz) := by
  have hi0 : vp_in xa 8 := hs.1
  have hi1 : vp_in xb 8 := hs.2.1
  refine r_start (cc := cX4_perform) (maxL := 2) (ret := (some .int)) (by decide) rfl (Nat.le_of_ble_eq_true rfl) ?_
  intro p e s m below meth c ls hC hr hlk hnm hsz hw hl
  have hx := hC.1
  have hb := hC.2.1
  have hl : lv_has ls 2 [(0, .ref (ad 3)), (1, .ref (ad ρ))] := hl
  refine lv_aload_n hx hb dX4_perform_0 rfl (lv_at hl 1 rfl) ?_
  refine r_get hC hw rk5 in_X4_perform_5 ρ hst.1 hst.2 0 (by decide) lk_X4_perform_95 (v := .int 60) rfl dX4_perform_1 ?_
  refine lv_iconst (v := 1) hx hb dX4_perform_4 (by decide) ?_
  refine lv_icmp_lt (tgt := 26) hx hb dX4_perform_5 (by decide) (fun c_ => absurd c_ (by decide)) (fun _ => ?_)
  refine lv_aload_n hx hb dX4_perform_8 rfl (lv_at hl 1 rfl) ?_
  refine r_get hC hw rk5 in_X4_perform_5 ρ hst.1 hst.2 0 (by decide) lk_X4_perform_95 (v := .int 60) rfl dX4_perform_9 ?_
  refine lv_bipush (v := 26) hx hb dX4_perform_12 (by decide) ?_
  refine lv_icmp_gt (tgt := 26) hx hb dX4_perform_14 (by decide) (fun _ => ?_) (fun c_ => absurd (by decide) c_)
  refine lv_aload_n hx hb dX4_perform_26 rfl (lv_at hl 1 rfl) ?_
  refine r_get hC hw rk5 in_X4_perform_5 ρ hst.1 hst.2 0 (by decide) lk_X4_perform_95 (v := .int 60) rfl dX4_perform_27 ?_
  refine lv_lookup (off := 211) (tgt := 241) hx hb dX4_perform_30 (by decide) (by decide) (by decide) ?_
  refine lv_aload_n hx hb dX4_perform_241 rfl (lv_at hl 0 rfl) ?_
  refine r_get hC hw rk4 in_X4_perform_4 3 (wXl 3 (by decide)) wXc3 3 (by decide) lk_X4_perform_31 (v := .ref (ad 5)) rfl dX4_perform_242 ?_
  refine lv_aload_n hx hb dX4_perform_245 rfl (lv_at hl 1 rfl) ?_
  refine r_ki hw (r_runV (rest := []) hC hw 5 (c_X7_weave_60 l _ ρ xa xb xc hd th hst hs hX (nn_FB hB 60 _ _ _ (by decide) (by decide))) rk7 (wXl 5 (by decide)) wXc5 1 gX4_perform_X7_weave rfl rfl rfl (by decide +kernel) ⟨Nat.le_of_ble_eq_true rfl, Nat.le_of_ble_eq_true rfl⟩ rfl hl.1 rfl (Nat.le_of_ble_eq_true rfl) dX4_perform_246 ⟨Nat.le_of_ble_eq_true rfl, Nat.le_of_ble_eq_true rfl⟩) (fun r_2 u_3 H locs h_1 hw => ?_)
  exact r_iret hC hr hlk hw (u_3, τ, ad) rfl ⟨⟨h_1, τ.2.2.1, rfl, fun _ => rfl⟩, fun _ _ => rfl⟩ (show _ ≤ 4 * g by omega) (show _ ≤ 44 * g by omega) dX4_perform_249

set_option maxHeartbeats 4000000 in
set_option maxRecDepth 100000 in
theorem c_X4_perform_61 (l : Launch) {D : va_G} {q : Nat → ClassId} {ad : Nat → Nat} {κ : KS} {τ : TAU} (sz : Nat) (ρ : Nat) (xa xb xc hd th : Int32) (hst : stepAt q ad κ τ ρ 61 xa xb xc) (hs : okStep 61 xa xb xc)(hX : WFx κ) (hm : vp_in (sI κ 2) 61) (hF : WFa κ τ (aN (sI κ 2))) (hρ : 400 ≤ ρ) (hB : FB κ) (hc6 : ∃ n, n ≤ 12 ∧ sI κ 6 = nI n) (hT : ¬ sI κ 7 < 0) (hhd : hd = sI κ 9) (hth : τ.2.2.2 = rT th) (hthv : ¬ th = 0 → aN (th - 1) < aN (sI κ 2)) (g : Nat) (hg : why κ 61 xa xb xc = 0 → mkN κ 61 xb ≤ g) : Met l yX4_perform wsX4_perform (rmc 4 99 (4 * g) (44 * g)) (va_Pc [.ref (ad 3), .ref (ad ρ)] (rPre D q (wX q ad κ τ) sz)) (va_Qi (fun (r : Int32) (u : KS × TAU × (Nat → Nat)) => ((r, u.1) = doR κ hd th 61 xa xb xc ∧ ∃ v, u.2.1 = (τ.1, τ.2.1, v, τ.2.2.2) ∧ (r = 0 → v = nxt κ 61 xa xb τ.2.2.1)) ∧ ∀ i, lvX κ i → u.2.2 i = ad i) (fun (u : KS × TAU × (Nat → Nat)) tt => rPo D (rA (wX q ad κ τ) sz) (wX q u.2.2 u.1 u.2.1) tt) (rA (wX q ad κ τ) sz)) (4 * g) (44 * g) (rA (wX q ad κ τ) sz) := by
  have hi0 : vp_in xa 4 := hs.1
  have hi1 : vp_in xb 8 := hs.2.1
  refine r_start (cc := cX4_perform) (maxL := 2) (ret := (some .int)) (by decide) rfl (Nat.le_of_ble_eq_true rfl) ?_
  intro p e s m below meth c ls hC hr hlk hnm hsz hw hl
  have hx := hC.1
  have hb := hC.2.1
  have hl : lv_has ls 2 [(0, .ref (ad 3)), (1, .ref (ad ρ))] := hl
  refine lv_aload_n hx hb dX4_perform_0 rfl (lv_at hl 1 rfl) ?_
  refine r_get hC hw rk5 in_X4_perform_5 ρ hst.1 hst.2 0 (by decide) lk_X4_perform_95 (v := .int 61) rfl dX4_perform_1 ?_
  refine lv_iconst (v := 1) hx hb dX4_perform_4 (by decide) ?_
  refine lv_icmp_lt (tgt := 26) hx hb dX4_perform_5 (by decide) (fun c_ => absurd c_ (by decide)) (fun _ => ?_)
  refine lv_aload_n hx hb dX4_perform_8 rfl (lv_at hl 1 rfl) ?_
  refine r_get hC hw rk5 in_X4_perform_5 ρ hst.1 hst.2 0 (by decide) lk_X4_perform_95 (v := .int 61) rfl dX4_perform_9 ?_
  refine lv_bipush (v := 26) hx hb dX4_perform_12 (by decide) ?_
  refine lv_icmp_gt (tgt := 26) hx hb dX4_perform_14 (by decide) (fun _ => ?_) (fun c_ => absurd (by decide) c_)
  refine lv_aload_n hx hb dX4_perform_26 rfl (lv_at hl 1 rfl) ?_
  refine r_get hC hw rk5 in_X4_perform_5 ρ hst.1 hst.2 0 (by decide) lk_X4_perform_95 (v := .int 61) rfl dX4_perform_27 ?_
  refine lv_lookup (off := 211) (tgt := 241) hx hb dX4_perform_30 (by decide) (by decide) (by decide) ?_
  refine lv_aload_n hx hb dX4_perform_241 rfl (lv_at hl 0 rfl) ?_
  refine r_get hC hw rk4 in_X4_perform_4 3 (wXl 3 (by decide)) wXc3 3 (by decide) lk_X4_perform_31 (v := .ref (ad 5)) rfl dX4_perform_242 ?_
  refine lv_aload_n hx hb dX4_perform_245 rfl (lv_at hl 1 rfl) ?_
  refine r_ki hw (r_runV (rest := []) hC hw 5 (c_X7_weave_61 l _ ρ xa xb xc hd th hst hs hX (nn_FB hB 61 _ _ _ (by decide) (by decide))) rk7 (wXl 5 (by decide)) wXc5 1 gX4_perform_X7_weave rfl rfl rfl (by decide +kernel) ⟨Nat.le_of_ble_eq_true rfl, Nat.le_of_ble_eq_true rfl⟩ rfl hl.1 rfl (Nat.le_of_ble_eq_true rfl) dX4_perform_246 ⟨Nat.le_of_ble_eq_true rfl, Nat.le_of_ble_eq_true rfl⟩) (fun r_2 u_3 H locs h_1 hw => ?_)
  exact r_iret hC hr hlk hw (u_3, τ, ad) rfl ⟨⟨h_1, τ.2.2.1, rfl, fun _ => rfl⟩, fun _ _ => rfl⟩ (show _ ≤ 4 * g by omega) (show _ ≤ 44 * g by omega) dX4_perform_249

set_option maxHeartbeats 4000000 in
set_option maxRecDepth 100000 in
theorem c_X4_perform_62 (l : Launch) {D : va_G} {q : Nat → ClassId} {ad : Nat → Nat} {κ : KS} {τ : TAU} (sz : Nat) (ρ : Nat) (xa xb xc hd th : Int32) (hst : stepAt q ad κ τ ρ 62 xa xb xc) (hs : okStep 62 xa xb xc)(hX : WFx κ) (hm : vp_in (sI κ 2) 61) (hF : WFa κ τ (aN (sI κ 2))) (hρ : 400 ≤ ρ) (hB : FB κ) (hc6 : ∃ n, n ≤ 12 ∧ sI κ 6 = nI n) (hT : ¬ sI κ 7 < 0) (hhd : hd = sI κ 9) (hth : τ.2.2.2 = rT th) (hthv : ¬ th = 0 → aN (th - 1) < aN (sI κ 2)) (g : Nat) (hg : why κ 62 xa xb xc = 0 → mkN κ 62 xb ≤ g) : Met l yX4_perform wsX4_perform (rmc 4 99 (4 * g) (44 * g)) (va_Pc [.ref (ad 3), .ref (ad ρ)] (rPre D q (wX q ad κ τ) sz)) (va_Qi (fun (r : Int32) (u : KS × TAU × (Nat → Nat)) => ((r, u.1) = doR κ hd th 62 xa xb xc ∧ ∃ v, u.2.1 = (τ.1, τ.2.1, v, τ.2.2.2) ∧ (r = 0 → v = nxt κ 62 xa xb τ.2.2.1)) ∧ ∀ i, lvX κ i → u.2.2 i = ad i) (fun (u : KS × TAU × (Nat → Nat)) tt => rPo D (rA (wX q ad κ τ) sz) (wX q u.2.2 u.1 u.2.1) tt) (rA (wX q ad κ τ) sz)) (4 * g) (44 * g) (rA (wX q ad κ τ) sz) := by
  have hi0 : vp_in xa 4 := hs.1
  have hi1 : vp_in xb 8 := hs.2.1
  refine r_start (cc := cX4_perform) (maxL := 2) (ret := (some .int)) (by decide) rfl (Nat.le_of_ble_eq_true rfl) ?_
  intro p e s m below meth c ls hC hr hlk hnm hsz hw hl
  have hx := hC.1
  have hb := hC.2.1
  have hl : lv_has ls 2 [(0, .ref (ad 3)), (1, .ref (ad ρ))] := hl
  refine lv_aload_n hx hb dX4_perform_0 rfl (lv_at hl 1 rfl) ?_
  refine r_get hC hw rk5 in_X4_perform_5 ρ hst.1 hst.2 0 (by decide) lk_X4_perform_95 (v := .int 62) rfl dX4_perform_1 ?_
  refine lv_iconst (v := 1) hx hb dX4_perform_4 (by decide) ?_
  refine lv_icmp_lt (tgt := 26) hx hb dX4_perform_5 (by decide) (fun c_ => absurd c_ (by decide)) (fun _ => ?_)
  refine lv_aload_n hx hb dX4_perform_8 rfl (lv_at hl 1 rfl) ?_
  refine r_get hC hw rk5 in_X4_perform_5 ρ hst.1 hst.2 0 (by decide) lk_X4_perform_95 (v := .int 62) rfl dX4_perform_9 ?_
  refine lv_bipush (v := 26) hx hb dX4_perform_12 (by decide) ?_
  refine lv_icmp_gt (tgt := 26) hx hb dX4_perform_14 (by decide) (fun _ => ?_) (fun c_ => absurd (by decide) c_)
  refine lv_aload_n hx hb dX4_perform_26 rfl (lv_at hl 1 rfl) ?_
  refine r_get hC hw rk5 in_X4_perform_5 ρ hst.1 hst.2 0 (by decide) lk_X4_perform_95 (v := .int 62) rfl dX4_perform_27 ?_
  refine lv_lookup (off := 211) (tgt := 241) hx hb dX4_perform_30 (by decide) (by decide) (by decide) ?_
  refine lv_aload_n hx hb dX4_perform_241 rfl (lv_at hl 0 rfl) ?_
  refine r_get hC hw rk4 in_X4_perform_4 3 (wXl 3 (by decide)) wXc3 3 (by decide) lk_X4_perform_31 (v := .ref (ad 5)) rfl dX4_perform_242 ?_
  refine lv_aload_n hx hb dX4_perform_245 rfl (lv_at hl 1 rfl) ?_
  refine r_ki hw (r_runV (rest := []) hC hw 5 (c_X7_weave_62 l _ ρ xa xb xc hd th hst hs hX (nn_FB hB 62 _ _ _ (by decide) (by decide))) rk7 (wXl 5 (by decide)) wXc5 1 gX4_perform_X7_weave rfl rfl rfl (by decide +kernel) ⟨Nat.le_of_ble_eq_true rfl, Nat.le_of_ble_eq_true rfl⟩ rfl hl.1 rfl (Nat.le_of_ble_eq_true rfl) dX4_perform_246 ⟨Nat.le_of_ble_eq_true rfl, Nat.le_of_ble_eq_true rfl⟩) (fun r_2 u_3 H locs h_1 hw => ?_)
  exact r_iret hC hr hlk hw (u_3, τ, ad) rfl ⟨⟨h_1, τ.2.2.1, rfl, fun _ => rfl⟩, fun _ _ => rfl⟩ (show _ ≤ 4 * g by omega) (show _ ≤ 44 * g by omega) dX4_perform_249

set_option maxHeartbeats 4000000 in
set_option maxRecDepth 100000 in
theorem c_X4_perform_63 (l : Launch) {D : va_G} {q : Nat → ClassId} {ad : Nat → Nat} {κ : KS} {τ : TAU} (sz : Nat) (ρ : Nat) (xa xb xc hd th : Int32) (hst : stepAt q ad κ τ ρ 63 xa xb xc) (hs : okStep 63 xa xb xc)(hX : WFx κ) (hm : vp_in (sI κ 2) 61) (hF : WFa κ τ (aN (sI κ 2))) (hρ : 400 ≤ ρ) (hB : FB κ) (hc6 : ∃ n, n ≤ 12 ∧ sI κ 6 = nI n) (hT : ¬ sI κ 7 < 0) (hhd : hd = sI κ 9) (hth : τ.2.2.2 = rT th) (hthv : ¬ th = 0 → aN (th - 1) < aN (sI κ 2)) (g : Nat) (hg : why κ 63 xa xb xc = 0 → mkN κ 63 xb ≤ g) : Met l yX4_perform wsX4_perform (rmc 4 99 (4 * g) (44 * g)) (va_Pc [.ref (ad 3), .ref (ad ρ)] (rPre D q (wX q ad κ τ) sz)) (va_Qi (fun (r : Int32) (u : KS × TAU × (Nat → Nat)) => ((r, u.1) = doR κ hd th 63 xa xb xc ∧ ∃ v, u.2.1 = (τ.1, τ.2.1, v, τ.2.2.2) ∧ (r = 0 → v = nxt κ 63 xa xb τ.2.2.1)) ∧ ∀ i, lvX κ i → u.2.2 i = ad i) (fun (u : KS × TAU × (Nat → Nat)) tt => rPo D (rA (wX q ad κ τ) sz) (wX q u.2.2 u.1 u.2.1) tt) (rA (wX q ad κ τ) sz)) (4 * g) (44 * g) (rA (wX q ad κ τ) sz) := by
  have hi0 : vp_in xa 8 := hs.1
  have hi1 : vp_in xb 8 := hs.2.1
  refine r_start (cc := cX4_perform) (maxL := 2) (ret := (some .int)) (by decide) rfl (Nat.le_of_ble_eq_true rfl) ?_
  intro p e s m below meth c ls hC hr hlk hnm hsz hw hl
  have hx := hC.1
  have hb := hC.2.1
  have hl : lv_has ls 2 [(0, .ref (ad 3)), (1, .ref (ad ρ))] := hl
  refine lv_aload_n hx hb dX4_perform_0 rfl (lv_at hl 1 rfl) ?_
  refine r_get hC hw rk5 in_X4_perform_5 ρ hst.1 hst.2 0 (by decide) lk_X4_perform_95 (v := .int 63) rfl dX4_perform_1 ?_
  refine lv_iconst (v := 1) hx hb dX4_perform_4 (by decide) ?_
  refine lv_icmp_lt (tgt := 26) hx hb dX4_perform_5 (by decide) (fun c_ => absurd c_ (by decide)) (fun _ => ?_)
  refine lv_aload_n hx hb dX4_perform_8 rfl (lv_at hl 1 rfl) ?_
  refine r_get hC hw rk5 in_X4_perform_5 ρ hst.1 hst.2 0 (by decide) lk_X4_perform_95 (v := .int 63) rfl dX4_perform_9 ?_
  refine lv_bipush (v := 26) hx hb dX4_perform_12 (by decide) ?_
  refine lv_icmp_gt (tgt := 26) hx hb dX4_perform_14 (by decide) (fun _ => ?_) (fun c_ => absurd (by decide) c_)
  refine lv_aload_n hx hb dX4_perform_26 rfl (lv_at hl 1 rfl) ?_
  refine r_get hC hw rk5 in_X4_perform_5 ρ hst.1 hst.2 0 (by decide) lk_X4_perform_95 (v := .int 63) rfl dX4_perform_27 ?_
  refine lv_lookup (off := 211) (tgt := 241) hx hb dX4_perform_30 (by decide) (by decide) (by decide) ?_
  refine lv_aload_n hx hb dX4_perform_241 rfl (lv_at hl 0 rfl) ?_
  refine r_get hC hw rk4 in_X4_perform_4 3 (wXl 3 (by decide)) wXc3 3 (by decide) lk_X4_perform_31 (v := .ref (ad 5)) rfl dX4_perform_242 ?_
  refine lv_aload_n hx hb dX4_perform_245 rfl (lv_at hl 1 rfl) ?_
  refine r_ki hw (r_runV (rest := []) hC hw 5 (c_X7_weave_63 l _ ρ xa xb xc hd th hst hs hX (nn_FB hB 63 _ _ _ (by decide) (by decide))) rk7 (wXl 5 (by decide)) wXc5 1 gX4_perform_X7_weave rfl rfl rfl (by decide +kernel) ⟨Nat.le_of_ble_eq_true rfl, Nat.le_of_ble_eq_true rfl⟩ rfl hl.1 rfl (Nat.le_of_ble_eq_true rfl) dX4_perform_246 ⟨Nat.le_of_ble_eq_true rfl, Nat.le_of_ble_eq_true rfl⟩) (fun r_2 u_3 H locs h_1 hw => ?_)
  exact r_iret hC hr hlk hw (u_3, τ, ad) rfl ⟨⟨h_1, τ.2.2.1, rfl, fun _ => rfl⟩, fun _ _ => rfl⟩ (show _ ≤ 4 * g by omega) (show _ ≤ 44 * g by omega) dX4_perform_249

set_option maxHeartbeats 4000000 in
set_option maxRecDepth 100000 in
theorem c_X4_perform_64 (l : Launch) {D : va_G} {q : Nat → ClassId} {ad : Nat → Nat} {κ : KS} {τ : TAU} (sz : Nat) (ρ : Nat) (xa xb xc hd th : Int32) (hst : stepAt q ad κ τ ρ 64 xa xb xc) (hs : okStep 64 xa xb xc)(hX : WFx κ) (hm : vp_in (sI κ 2) 61) (hF : WFa κ τ (aN (sI κ 2))) (hρ : 400 ≤ ρ) (hB : FB κ) (hc6 : ∃ n, n ≤ 12 ∧ sI κ 6 = nI n) (hT : ¬ sI κ 7 < 0) (hhd : hd = sI κ 9) (hth : τ.2.2.2 = rT th) (hthv : ¬ th = 0 → aN (th - 1) < aN (sI κ 2)) (g : Nat) (hg : why κ 64 xa xb xc = 0 → mkN κ 64 xb ≤ g) : Met l yX4_perform wsX4_perform (rmc 4 99 (4 * g) (44 * g)) (va_Pc [.ref (ad 3), .ref (ad ρ)] (rPre D q (wX q ad κ τ) sz)) (va_Qi (fun (r : Int32) (u : KS × TAU × (Nat → Nat)) => ((r, u.1) = doR κ hd th 64 xa xb xc ∧ ∃ v, u.2.1 = (τ.1, τ.2.1, v, τ.2.2.2) ∧ (r = 0 → v = nxt κ 64 xa xb τ.2.2.1)) ∧ ∀ i, lvX κ i → u.2.2 i = ad i) (fun (u : KS × TAU × (Nat → Nat)) tt => rPo D (rA (wX q ad κ τ) sz) (wX q u.2.2 u.1 u.2.1) tt) (rA (wX q ad κ τ) sz)) (4 * g) (44 * g) (rA (wX q ad κ τ) sz) := by
  have hi0 : vp_in xa 8 := hs.1
  have hi1 : vp_in xb 8 := hs.2.1
  refine r_start (cc := cX4_perform) (maxL := 2) (ret := (some .int)) (by decide) rfl (Nat.le_of_ble_eq_true rfl) ?_
  intro p e s m below meth c ls hC hr hlk hnm hsz hw hl
  have hx := hC.1
  have hb := hC.2.1
  have hl : lv_has ls 2 [(0, .ref (ad 3)), (1, .ref (ad ρ))] := hl
  refine lv_aload_n hx hb dX4_perform_0 rfl (lv_at hl 1 rfl) ?_
  refine r_get hC hw rk5 in_X4_perform_5 ρ hst.1 hst.2 0 (by decide) lk_X4_perform_95 (v := .int 64) rfl dX4_perform_1 ?_
  refine lv_iconst (v := 1) hx hb dX4_perform_4 (by decide) ?_
  refine lv_icmp_lt (tgt := 26) hx hb dX4_perform_5 (by decide) (fun c_ => absurd c_ (by decide)) (fun _ => ?_)
  refine lv_aload_n hx hb dX4_perform_8 rfl (lv_at hl 1 rfl) ?_
  refine r_get hC hw rk5 in_X4_perform_5 ρ hst.1 hst.2 0 (by decide) lk_X4_perform_95 (v := .int 64) rfl dX4_perform_9 ?_
  refine lv_bipush (v := 26) hx hb dX4_perform_12 (by decide) ?_
  refine lv_icmp_gt (tgt := 26) hx hb dX4_perform_14 (by decide) (fun _ => ?_) (fun c_ => absurd (by decide) c_)
  refine lv_aload_n hx hb dX4_perform_26 rfl (lv_at hl 1 rfl) ?_
  refine r_get hC hw rk5 in_X4_perform_5 ρ hst.1 hst.2 0 (by decide) lk_X4_perform_95 (v := .int 64) rfl dX4_perform_27 ?_
  refine lv_lookup (off := 211) (tgt := 241) hx hb dX4_perform_30 (by decide) (by decide) (by decide) ?_
  refine lv_aload_n hx hb dX4_perform_241 rfl (lv_at hl 0 rfl) ?_
  refine r_get hC hw rk4 in_X4_perform_4 3 (wXl 3 (by decide)) wXc3 3 (by decide) lk_X4_perform_31 (v := .ref (ad 5)) rfl dX4_perform_242 ?_
  refine lv_aload_n hx hb dX4_perform_245 rfl (lv_at hl 1 rfl) ?_
  refine r_ki hw (r_runV (rest := []) hC hw 5 (c_X7_weave_64 l _ ρ xa xb xc hd th hst hs hX (nn_FB hB 64 _ _ _ (by decide) (by decide))) rk7 (wXl 5 (by decide)) wXc5 1 gX4_perform_X7_weave rfl rfl rfl (by decide +kernel) ⟨Nat.le_of_ble_eq_true rfl, Nat.le_of_ble_eq_true rfl⟩ rfl hl.1 rfl (Nat.le_of_ble_eq_true rfl) dX4_perform_246 ⟨Nat.le_of_ble_eq_true rfl, Nat.le_of_ble_eq_true rfl⟩) (fun r_2 u_3 H locs h_1 hw => ?_)
  exact r_iret hC hr hlk hw (u_3, τ, ad) rfl ⟨⟨h_1, τ.2.2.1, rfl, fun _ => rfl⟩, fun _ _ => rfl⟩ (show _ ≤ 4 * g by omega) (show _ ≤ 44 * g by omega) dX4_perform_249

set_option maxHeartbeats 4000000 in
set_option maxRecDepth 100000 in
theorem c_X4_perform_65 (l : Launch) {D : va_G} {q : Nat → ClassId} {ad : Nat → Nat} {κ : KS} {τ : TAU} (sz : Nat) (ρ : Nat) (xa xb xc hd th : Int32) (hst : stepAt q ad κ τ ρ 65 xa xb xc) (hs : okStep 65 xa xb xc)(hX : WFx κ) (hm : vp_in (sI κ 2) 61) (hF : WFa κ τ (aN (sI κ 2))) (hρ : 400 ≤ ρ) (hB : FB κ) (hc6 : ∃ n, n ≤ 12 ∧ sI κ 6 = nI n) (hT : ¬ sI κ 7 < 0) (hhd : hd = sI κ 9) (hth : τ.2.2.2 = rT th) (hthv : ¬ th = 0 → aN (th - 1) < aN (sI κ 2)) (g : Nat) (hg : why κ 65 xa xb xc = 0 → mkN κ 65 xb ≤ g) : Met l yX4_perform wsX4_perform (rmc 4 99 (4 * g) (44 * g)) (va_Pc [.ref (ad 3), .ref (ad ρ)] (rPre D q (wX q ad κ τ) sz)) (va_Qi (fun (r : Int32) (u : KS × TAU × (Nat → Nat)) => ((r, u.1) = doR κ hd th 65 xa xb xc ∧ ∃ v, u.2.1 = (τ.1, τ.2.1, v, τ.2.2.2) ∧ (r = 0 → v = nxt κ 65 xa xb τ.2.2.1)) ∧ ∀ i, lvX κ i → u.2.2 i = ad i) (fun (u : KS × TAU × (Nat → Nat)) tt => rPo D (rA (wX q ad κ τ) sz) (wX q u.2.2 u.1 u.2.1) tt) (rA (wX q ad κ τ) sz)) (4 * g) (44 * g) (rA (wX q ad κ τ) sz) := by
  have hi0 : vp_in xa 8 := hs.1
  have hi1 : vp_in xb 8 := hs.2.1
  have hi2 : vp_in xc 8 := hs.2.2
  refine r_start (cc := cX4_perform) (maxL := 2) (ret := (some .int)) (by decide) rfl (Nat.le_of_ble_eq_true rfl) ?_
  intro p e s m below meth c ls hC hr hlk hnm hsz hw hl
  have hx := hC.1
  have hb := hC.2.1
  have hl : lv_has ls 2 [(0, .ref (ad 3)), (1, .ref (ad ρ))] := hl
  refine lv_aload_n hx hb dX4_perform_0 rfl (lv_at hl 1 rfl) ?_
  refine r_get hC hw rk5 in_X4_perform_5 ρ hst.1 hst.2 0 (by decide) lk_X4_perform_95 (v := .int 65) rfl dX4_perform_1 ?_
  refine lv_iconst (v := 1) hx hb dX4_perform_4 (by decide) ?_
  refine lv_icmp_lt (tgt := 26) hx hb dX4_perform_5 (by decide) (fun c_ => absurd c_ (by decide)) (fun _ => ?_)
  refine lv_aload_n hx hb dX4_perform_8 rfl (lv_at hl 1 rfl) ?_
  refine r_get hC hw rk5 in_X4_perform_5 ρ hst.1 hst.2 0 (by decide) lk_X4_perform_95 (v := .int 65) rfl dX4_perform_9 ?_
  refine lv_bipush (v := 26) hx hb dX4_perform_12 (by decide) ?_
  refine lv_icmp_gt (tgt := 26) hx hb dX4_perform_14 (by decide) (fun _ => ?_) (fun c_ => absurd (by decide) c_)
  refine lv_aload_n hx hb dX4_perform_26 rfl (lv_at hl 1 rfl) ?_
  refine r_get hC hw rk5 in_X4_perform_5 ρ hst.1 hst.2 0 (by decide) lk_X4_perform_95 (v := .int 65) rfl dX4_perform_27 ?_
  refine lv_lookup (off := 211) (tgt := 241) hx hb dX4_perform_30 (by decide) (by decide) (by decide) ?_
  refine lv_aload_n hx hb dX4_perform_241 rfl (lv_at hl 0 rfl) ?_
  refine r_get hC hw rk4 in_X4_perform_4 3 (wXl 3 (by decide)) wXc3 3 (by decide) lk_X4_perform_31 (v := .ref (ad 5)) rfl dX4_perform_242 ?_
  refine lv_aload_n hx hb dX4_perform_245 rfl (lv_at hl 1 rfl) ?_
  refine r_ki hw (r_runV (rest := []) hC hw 5 (c_X7_weave_65 l _ ρ xa xb xc hd th hst hs hX (nn_FB hB 65 _ _ _ (by decide) (by decide))) rk7 (wXl 5 (by decide)) wXc5 1 gX4_perform_X7_weave rfl rfl rfl (by decide +kernel) ⟨Nat.le_of_ble_eq_true rfl, Nat.le_of_ble_eq_true rfl⟩ rfl hl.1 rfl (Nat.le_of_ble_eq_true rfl) dX4_perform_246 ⟨Nat.le_of_ble_eq_true rfl, Nat.le_of_ble_eq_true rfl⟩) (fun r_2 u_3 H locs h_1 hw => ?_)
  exact r_iret hC hr hlk hw (u_3, τ, ad) rfl ⟨⟨h_1, τ.2.2.1, rfl, fun _ => rfl⟩, fun _ _ => rfl⟩ (show _ ≤ 4 * g by omega) (show _ ≤ 44 * g by omega) dX4_perform_249

set_option maxHeartbeats 4000000 in
set_option maxRecDepth 100000 in
theorem c_X4_perform_66 (l : Launch) {D : va_G} {q : Nat → ClassId} {ad : Nat → Nat} {κ : KS} {τ : TAU} (sz : Nat) (ρ : Nat) (xa xb xc hd th : Int32) (hst : stepAt q ad κ τ ρ 66 xa xb xc) (hs : okStep 66 xa xb xc)(hX : WFx κ) (hm : vp_in (sI κ 2) 61) (hF : WFa κ τ (aN (sI κ 2))) (hρ : 400 ≤ ρ) (hB : FB κ) (hc6 : ∃ n, n ≤ 12 ∧ sI κ 6 = nI n) (hT : ¬ sI κ 7 < 0) (hhd : hd = sI κ 9) (hth : τ.2.2.2 = rT th) (hthv : ¬ th = 0 → aN (th - 1) < aN (sI κ 2)) (g : Nat) (hg : why κ 66 xa xb xc = 0 → mkN κ 66 xb ≤ g) : Met l yX4_perform wsX4_perform (rmc 4 99 (4 * g) (44 * g)) (va_Pc [.ref (ad 3), .ref (ad ρ)] (rPre D q (wX q ad κ τ) sz)) (va_Qi (fun (r : Int32) (u : KS × TAU × (Nat → Nat)) => ((r, u.1) = doR κ hd th 66 xa xb xc ∧ ∃ v, u.2.1 = (τ.1, τ.2.1, v, τ.2.2.2) ∧ (r = 0 → v = nxt κ 66 xa xb τ.2.2.1)) ∧ ∀ i, lvX κ i → u.2.2 i = ad i) (fun (u : KS × TAU × (Nat → Nat)) tt => rPo D (rA (wX q ad κ τ) sz) (wX q u.2.2 u.1 u.2.1) tt) (rA (wX q ad κ τ) sz)) (4 * g) (44 * g) (rA (wX q ad κ τ) sz) := by
  have hi0 : vp_in xa 8 := hs.1
  have hi1 : vp_in xb 8 := hs.2.1
  have hi2 : vp_in xc 8 := hs.2.2
  refine r_start (cc := cX4_perform) (maxL := 2) (ret := (some .int)) (by decide) rfl (Nat.le_of_ble_eq_true rfl) ?_
  intro p e s m below meth c ls hC hr hlk hnm hsz hw hl
  have hx := hC.1
  have hb := hC.2.1
  have hl : lv_has ls 2 [(0, .ref (ad 3)), (1, .ref (ad ρ))] := hl
  refine lv_aload_n hx hb dX4_perform_0 rfl (lv_at hl 1 rfl) ?_
  refine r_get hC hw rk5 in_X4_perform_5 ρ hst.1 hst.2 0 (by decide) lk_X4_perform_95 (v := .int 66) rfl dX4_perform_1 ?_
  refine lv_iconst (v := 1) hx hb dX4_perform_4 (by decide) ?_
  refine lv_icmp_lt (tgt := 26) hx hb dX4_perform_5 (by decide) (fun c_ => absurd c_ (by decide)) (fun _ => ?_)
  refine lv_aload_n hx hb dX4_perform_8 rfl (lv_at hl 1 rfl) ?_
  refine r_get hC hw rk5 in_X4_perform_5 ρ hst.1 hst.2 0 (by decide) lk_X4_perform_95 (v := .int 66) rfl dX4_perform_9 ?_
  refine lv_bipush (v := 26) hx hb dX4_perform_12 (by decide) ?_
  refine lv_icmp_gt (tgt := 26) hx hb dX4_perform_14 (by decide) (fun _ => ?_) (fun c_ => absurd (by decide) c_)
  refine lv_aload_n hx hb dX4_perform_26 rfl (lv_at hl 1 rfl) ?_
  refine r_get hC hw rk5 in_X4_perform_5 ρ hst.1 hst.2 0 (by decide) lk_X4_perform_95 (v := .int 66) rfl dX4_perform_27 ?_
  refine lv_lookup (off := 211) (tgt := 241) hx hb dX4_perform_30 (by decide) (by decide) (by decide) ?_
  refine lv_aload_n hx hb dX4_perform_241 rfl (lv_at hl 0 rfl) ?_
  refine r_get hC hw rk4 in_X4_perform_4 3 (wXl 3 (by decide)) wXc3 3 (by decide) lk_X4_perform_31 (v := .ref (ad 5)) rfl dX4_perform_242 ?_
  refine lv_aload_n hx hb dX4_perform_245 rfl (lv_at hl 1 rfl) ?_
  refine r_ki hw (r_runV (rest := []) hC hw 5 (c_X7_weave_66 l _ ρ xa xb xc hd th hst hs hX (nn_FB hB 66 _ _ _ (by decide) (by decide))) rk7 (wXl 5 (by decide)) wXc5 1 gX4_perform_X7_weave rfl rfl rfl (by decide +kernel) ⟨Nat.le_of_ble_eq_true rfl, Nat.le_of_ble_eq_true rfl⟩ rfl hl.1 rfl (Nat.le_of_ble_eq_true rfl) dX4_perform_246 ⟨Nat.le_of_ble_eq_true rfl, Nat.le_of_ble_eq_true rfl⟩) (fun r_2 u_3 H locs h_1 hw => ?_)
  exact r_iret hC hr hlk hw (u_3, τ, ad) rfl ⟨⟨h_1, τ.2.2.1, rfl, fun _ => rfl⟩, fun _ _ => rfl⟩ (show _ ≤ 4 * g by omega) (show _ ≤ 44 * g by omega) dX4_perform_249

set_option maxHeartbeats 4000000 in
set_option maxRecDepth 100000 in
theorem c_X4_perform_67 (l : Launch) {D : va_G} {q : Nat → ClassId} {ad : Nat → Nat} {κ : KS} {τ : TAU} (sz : Nat) (ρ : Nat) (xa xb xc hd th : Int32) (hst : stepAt q ad κ τ ρ 67 xa xb xc) (hs : okStep 67 xa xb xc)(hX : WFx κ) (hm : vp_in (sI κ 2) 61) (hF : WFa κ τ (aN (sI κ 2))) (hρ : 400 ≤ ρ) (hB : FB κ) (hc6 : ∃ n, n ≤ 12 ∧ sI κ 6 = nI n) (hT : ¬ sI κ 7 < 0) (hhd : hd = sI κ 9) (hth : τ.2.2.2 = rT th) (hthv : ¬ th = 0 → aN (th - 1) < aN (sI κ 2)) (g : Nat) (hg : why κ 67 xa xb xc = 0 → mkN κ 67 xb ≤ g) : Met l yX4_perform wsX4_perform (rmc 4 99 (4 * g) (44 * g)) (va_Pc [.ref (ad 3), .ref (ad ρ)] (rPre D q (wX q ad κ τ) sz)) (va_Qi (fun (r : Int32) (u : KS × TAU × (Nat → Nat)) => ((r, u.1) = doR κ hd th 67 xa xb xc ∧ ∃ v, u.2.1 = (τ.1, τ.2.1, v, τ.2.2.2) ∧ (r = 0 → v = nxt κ 67 xa xb τ.2.2.1)) ∧ ∀ i, lvX κ i → u.2.2 i = ad i) (fun (u : KS × TAU × (Nat → Nat)) tt => rPo D (rA (wX q ad κ τ) sz) (wX q u.2.2 u.1 u.2.1) tt) (rA (wX q ad κ τ) sz)) (4 * g) (44 * g) (rA (wX q ad κ τ) sz) := by
  have hi0 : vp_in xa 8 := hs.1
  have hi1 : vp_in xb 8 := hs.2.1
  have hi2 : vp_in xc 8 := hs.2.2
  refine r_start (cc := cX4_perform) (maxL := 2) (ret := (some .int)) (by decide) rfl (Nat.le_of_ble_eq_true rfl) ?_
  intro p e s m below meth c ls hC hr hlk hnm hsz hw hl
  have hx := hC.1
  have hb := hC.2.1
  have hl : lv_has ls 2 [(0, .ref (ad 3)), (1, .ref (ad ρ))] := hl
  refine lv_aload_n hx hb dX4_perform_0 rfl (lv_at hl 1 rfl) ?_
  refine r_get hC hw rk5 in_X4_perform_5 ρ hst.1 hst.2 0 (by decide) lk_X4_perform_95 (v := .int 67) rfl dX4_perform_1 ?_
  refine lv_iconst (v := 1) hx hb dX4_perform_4 (by decide) ?_
  refine lv_icmp_lt (tgt := 26) hx hb dX4_perform_5 (by decide) (fun c_ => absurd c_ (by decide)) (fun _ => ?_)
  refine lv_aload_n hx hb dX4_perform_8 rfl (lv_at hl 1 rfl) ?_
  refine r_get hC hw rk5 in_X4_perform_5 ρ hst.1 hst.2 0 (by decide) lk_X4_perform_95 (v := .int 67) rfl dX4_perform_9 ?_
  refine lv_bipush (v := 26) hx hb dX4_perform_12 (by decide) ?_
  refine lv_icmp_gt (tgt := 26) hx hb dX4_perform_14 (by decide) (fun _ => ?_) (fun c_ => absurd (by decide) c_)
  refine lv_aload_n hx hb dX4_perform_26 rfl (lv_at hl 1 rfl) ?_
  refine r_get hC hw rk5 in_X4_perform_5 ρ hst.1 hst.2 0 (by decide) lk_X4_perform_95 (v := .int 67) rfl dX4_perform_27 ?_
  refine lv_lookup (off := 211) (tgt := 241) hx hb dX4_perform_30 (by decide) (by decide) (by decide) ?_
  refine lv_aload_n hx hb dX4_perform_241 rfl (lv_at hl 0 rfl) ?_
  refine r_get hC hw rk4 in_X4_perform_4 3 (wXl 3 (by decide)) wXc3 3 (by decide) lk_X4_perform_31 (v := .ref (ad 5)) rfl dX4_perform_242 ?_
  refine lv_aload_n hx hb dX4_perform_245 rfl (lv_at hl 1 rfl) ?_
  refine r_ki hw (r_runV (rest := []) hC hw 5 (c_X7_weave_67 l _ ρ xa xb xc hd th hst hs hX hm hF hρ g hg) rk7 (wXl 5 (by decide)) wXc5 1 gX4_perform_X7_weave rfl rfl rfl (by decide +kernel) ⟨Nat.le_of_ble_eq_true rfl, Nat.le_of_ble_eq_true rfl⟩ rfl hl.1 rfl (Nat.le_of_ble_eq_true rfl) dX4_perform_246 ⟨show 0 + (4 * g) ≤ 4 * g by omega, show 0 + (44 * g) ≤ 44 * g by omega⟩) (fun r_2 u_3 H locs h_1 hw => ?_)
  exact r_iret hC hr hlk hw (u_3.1, τ, u_3.2) rfl ⟨⟨h_1.1, τ.2.2.1, rfl, fun _ => rfl⟩, h_1.2⟩ (show _ ≤ 4 * g by omega) (show _ ≤ 44 * g by omega) dX4_perform_249

set_option maxHeartbeats 4000000 in
set_option maxRecDepth 100000 in
theorem c_X4_perform_68 (l : Launch) {D : va_G} {q : Nat → ClassId} {ad : Nat → Nat} {κ : KS} {τ : TAU} (sz : Nat) (ρ : Nat) (xa xb xc hd th : Int32) (hst : stepAt q ad κ τ ρ 68 xa xb xc) (hs : okStep 68 xa xb xc)(hX : WFx κ) (hm : vp_in (sI κ 2) 61) (hF : WFa κ τ (aN (sI κ 2))) (hρ : 400 ≤ ρ) (hB : FB κ) (hc6 : ∃ n, n ≤ 12 ∧ sI κ 6 = nI n) (hT : ¬ sI κ 7 < 0) (hhd : hd = sI κ 9) (hth : τ.2.2.2 = rT th) (hthv : ¬ th = 0 → aN (th - 1) < aN (sI κ 2)) (g : Nat) (hg : why κ 68 xa xb xc = 0 → mkN κ 68 xb ≤ g) : Met l yX4_perform wsX4_perform (rmc 4 99 (4 * g) (44 * g)) (va_Pc [.ref (ad 3), .ref (ad ρ)] (rPre D q (wX q ad κ τ) sz)) (va_Qi (fun (r : Int32) (u : KS × TAU × (Nat → Nat)) => ((r, u.1) = doR κ hd th 68 xa xb xc ∧ ∃ v, u.2.1 = (τ.1, τ.2.1, v, τ.2.2.2) ∧ (r = 0 → v = nxt κ 68 xa xb τ.2.2.1)) ∧ ∀ i, lvX κ i → u.2.2 i = ad i) (fun (u : KS × TAU × (Nat → Nat)) tt => rPo D (rA (wX q ad κ τ) sz) (wX q u.2.2 u.1 u.2.1) tt) (rA (wX q ad κ τ) sz)) (4 * g) (44 * g) (rA (wX q ad κ τ) sz) := by
  have hi0 : vp_in xa 8 := hs.1
  refine r_start (cc := cX4_perform) (maxL := 2) (ret := (some .int)) (by decide) rfl (Nat.le_of_ble_eq_true rfl) ?_
  intro p e s m below meth c ls hC hr hlk hnm hsz hw hl
  have hx := hC.1
  have hb := hC.2.1
  have hl : lv_has ls 2 [(0, .ref (ad 3)), (1, .ref (ad ρ))] := hl
  refine lv_aload_n hx hb dX4_perform_0 rfl (lv_at hl 1 rfl) ?_
  refine r_get hC hw rk5 in_X4_perform_5 ρ hst.1 hst.2 0 (by decide) lk_X4_perform_95 (v := .int 68) rfl dX4_perform_1 ?_
  refine lv_iconst (v := 1) hx hb dX4_perform_4 (by decide) ?_
  refine lv_icmp_lt (tgt := 26) hx hb dX4_perform_5 (by decide) (fun c_ => absurd c_ (by decide)) (fun _ => ?_)
  refine lv_aload_n hx hb dX4_perform_8 rfl (lv_at hl 1 rfl) ?_
  refine r_get hC hw rk5 in_X4_perform_5 ρ hst.1 hst.2 0 (by decide) lk_X4_perform_95 (v := .int 68) rfl dX4_perform_9 ?_
  refine lv_bipush (v := 26) hx hb dX4_perform_12 (by decide) ?_
  refine lv_icmp_gt (tgt := 26) hx hb dX4_perform_14 (by decide) (fun _ => ?_) (fun c_ => absurd (by decide) c_)
  refine lv_aload_n hx hb dX4_perform_26 rfl (lv_at hl 1 rfl) ?_
  refine r_get hC hw rk5 in_X4_perform_5 ρ hst.1 hst.2 0 (by decide) lk_X4_perform_95 (v := .int 68) rfl dX4_perform_27 ?_
  refine lv_lookup (off := 145) (tgt := 175) hx hb dX4_perform_30 (by decide) (by decide) (by decide) ?_
  refine lv_aload_n hx hb dX4_perform_175 rfl (lv_at hl 0 rfl) ?_
  refine r_get hC hw rk4 in_X4_perform_4 3 (wXl 3 (by decide)) wXc3 1 (by decide) lk_X4_perform_15 (v := .ref (ad 2)) rfl dX4_perform_176 ?_
  refine lv_aload_n hx hb dX4_perform_179 rfl (lv_at hl 1 rfl) ?_
  refine r_get hC hw rk5 in_X4_perform_5 ρ hst.1 hst.2 1 (by decide) lk_X4_perform_103 (v := .int xa) rfl dX4_perform_180 ?_
  refine r_kq hw (r_runV (rest := []) hC hw 2 (c_X3_getThing l _ _ 2 12 xa (wXl 2 (by decide)) wXc2 (wXl 12 (by decide)) wXc12) rk3 (wXl 2 (by decide)) wXc2 1 gX4_perform_X3_getThing rfl rfl rfl (by decide +kernel) ⟨Nat.le_of_ble_eq_true rfl, Nat.le_of_ble_eq_true rfl⟩ rfl hl.1 rfl (Nat.le_of_ble_eq_true rfl) dX4_perform_183 ⟨Nat.le_of_ble_eq_true rfl, Nat.le_of_ble_eq_true rfl⟩) (fun r_2 u_3 H locs h_1 hw => ?_)
  subst h_1
  by_cases n_4 : (sA κ 3 (aN xa)) = 0
  · refine r_topv (y := .null) (by rw [gN_in (by assumption) (by decide)]; show va_rf ((rT (sA κ 3 (aN xa))).map ad) = _; rw [rT0 n_4]; rfl) ?_
    refine r_ki hw (r_runS (rest := []) hC hw (c_X4_throwFaultN (ad := ad) l _ xa xb xc hs hX n_4) 1 gX4_perform_X4_throwFault rfl rfl rfl (by decide +kernel) ⟨Nat.le_of_ble_eq_true rfl, Nat.le_of_ble_eq_true rfl⟩ rfl hl.1 rfl (Nat.le_of_ble_eq_true rfl) dX4_perform_186 ⟨Nat.le_of_ble_eq_true rfl, Nat.le_of_ble_eq_true rfl⟩) (fun r_6 u_7 H locs h_5 hw => ?_)
    exact r_iret hC hr hlk hw (κ, τ, ad) rfl ⟨⟨by rw [doR68, h_5], τ.2.2.1, rfl, fun _ => rfl⟩, fun _ _ => rfl⟩ (show _ ≤ 4 * g by omega) (show _ ≤ 44 * g by omega) dX4_perform_189
  · refine r_topv (y := .ref (ad (100 + 4 * (aN ((sA κ 3 (aN xa)) - 1))))) (by rw [gN_in (by assumption) (by decide)]; show va_rf ((rT (sA κ 3 (aN xa))).map ad) = _; rw [rT1 n_4]; rfl) ?_
    have hB_a := hX.2.1 xa (by assumption) n_4
    have h6_a : (aN ((sA κ 3 (aN xa)) - 1)) < 60 := Nat.lt_of_lt_of_le hB_a.2 hX.1
    have hl_a : (wX q ad κ τ).2.1 (100 + 4 * (aN ((sA κ 3 (aN xa)) - 1))) := thl hB_a.2
    have hc_a : (wX q ad κ τ).2.2 (100 + 4 * (aN ((sA κ 3 (aN xa)) - 1))) = .inr (6, fsT ad κ (aN ((sA κ 3 (aN xa)) - 1))) := thc h6_a
    have hk_a := hX.2.2.1 _ hB_a.2
    refine r_ki hw (r_runS (rest := []) hC hw (c_X4_throwFault (ad := ad) l _ xa xb xc hs hX n_4) 1 gX4_perform_X4_throwFault rfl rfl rfl (by decide +kernel) ⟨Nat.le_of_ble_eq_true rfl, Nat.le_of_ble_eq_true rfl⟩ rfl hl.1 rfl (Nat.le_of_ble_eq_true rfl) dX4_perform_186 ⟨Nat.le_of_ble_eq_true rfl, Nat.le_of_ble_eq_true rfl⟩) (fun r_9 u_10 H locs h_8 hw => ?_)
    exact r_iret hC hr hlk hw (κ, τ, ad) rfl ⟨⟨by rw [doR68, h_8], τ.2.2.1, rfl, fun _ => rfl⟩, fun _ _ => rfl⟩ (show _ ≤ 4 * g by omega) (show _ ≤ 44 * g by omega) dX4_perform_189

set_option maxHeartbeats 4000000 in
set_option maxRecDepth 100000 in
theorem c_X4_perform_69 (l : Launch) {D : va_G} {q : Nat → ClassId} {ad : Nat → Nat} {κ : KS} {τ : TAU} (sz : Nat) (ρ : Nat) (xa xb xc hd th : Int32) (hst : stepAt q ad κ τ ρ 69 xa xb xc) (hs : okStep 69 xa xb xc)(hX : WFx κ) (hm : vp_in (sI κ 2) 61) (hF : WFa κ τ (aN (sI κ 2))) (hρ : 400 ≤ ρ) (hB : FB κ) (hc6 : ∃ n, n ≤ 12 ∧ sI κ 6 = nI n) (hT : ¬ sI κ 7 < 0) (hhd : hd = sI κ 9) (hth : τ.2.2.2 = rT th) (hthv : ¬ th = 0 → aN (th - 1) < aN (sI κ 2)) (g : Nat) (hg : why κ 69 xa xb xc = 0 → mkN κ 69 xb ≤ g) : Met l yX4_perform wsX4_perform (rmc 4 99 (4 * g) (44 * g)) (va_Pc [.ref (ad 3), .ref (ad ρ)] (rPre D q (wX q ad κ τ) sz)) (va_Qi (fun (r : Int32) (u : KS × TAU × (Nat → Nat)) => ((r, u.1) = doR κ hd th 69 xa xb xc ∧ ∃ v, u.2.1 = (τ.1, τ.2.1, v, τ.2.2.2) ∧ (r = 0 → v = nxt κ 69 xa xb τ.2.2.1)) ∧ ∀ i, lvX κ i → u.2.2 i = ad i) (fun (u : KS × TAU × (Nat → Nat)) tt => rPo D (rA (wX q ad κ τ) sz) (wX q u.2.2 u.1 u.2.1) tt) (rA (wX q ad κ τ) sz)) (4 * g) (44 * g) (rA (wX q ad κ τ) sz) := by
  have hi0 : vp_in xa 8 := hs.1
  refine r_start (cc := cX4_perform) (maxL := 2) (ret := (some .int)) (by decide) rfl (Nat.le_of_ble_eq_true rfl) ?_
  intro p e s m below meth c ls hC hr hlk hnm hsz hw hl
  have hx := hC.1
  have hb := hC.2.1
  have hl : lv_has ls 2 [(0, .ref (ad 3)), (1, .ref (ad ρ))] := hl
  refine lv_aload_n hx hb dX4_perform_0 rfl (lv_at hl 1 rfl) ?_
  refine r_get hC hw rk5 in_X4_perform_5 ρ hst.1 hst.2 0 (by decide) lk_X4_perform_95 (v := .int 69) rfl dX4_perform_1 ?_
  refine lv_iconst (v := 1) hx hb dX4_perform_4 (by decide) ?_
  refine lv_icmp_lt (tgt := 26) hx hb dX4_perform_5 (by decide) (fun c_ => absurd c_ (by decide)) (fun _ => ?_)
  refine lv_aload_n hx hb dX4_perform_8 rfl (lv_at hl 1 rfl) ?_
  refine r_get hC hw rk5 in_X4_perform_5 ρ hst.1 hst.2 0 (by decide) lk_X4_perform_95 (v := .int 69) rfl dX4_perform_9 ?_
  refine lv_bipush (v := 26) hx hb dX4_perform_12 (by decide) ?_
  refine lv_icmp_gt (tgt := 26) hx hb dX4_perform_14 (by decide) (fun _ => ?_) (fun c_ => absurd (by decide) c_)
  refine lv_aload_n hx hb dX4_perform_26 rfl (lv_at hl 1 rfl) ?_
  refine r_get hC hw rk5 in_X4_perform_5 ρ hst.1 hst.2 0 (by decide) lk_X4_perform_95 (v := .int 69) rfl dX4_perform_27 ?_
  refine lv_lookup (off := 160) (tgt := 190) hx hb dX4_perform_30 (by decide) (by decide) (by decide) ?_
  refine lv_aload_n hx hb dX4_perform_190 rfl (lv_at hl 0 rfl) ?_
  refine r_get hC hw rk4 in_X4_perform_4 3 (wXl 3 (by decide)) wXc3 1 (by decide) lk_X4_perform_15 (v := .ref (ad 2)) rfl dX4_perform_191 ?_
  refine lv_aload_n hx hb dX4_perform_194 rfl (lv_at hl 1 rfl) ?_
  refine r_get hC hw rk5 in_X4_perform_5 ρ hst.1 hst.2 1 (by decide) lk_X4_perform_103 (v := .int xa) rfl dX4_perform_195 ?_
  refine lv_aload_n hx hb dX4_perform_198 rfl (lv_at hl 0 rfl) ?_
  refine r_get hC hw rk4 in_X4_perform_4 3 (wXl 3 (by decide)) wXc3 15 (by decide) lk_X4_perform_61 (v := va_rf (τ.2.2.2.map ad)) rfl dX4_perform_199 ?_
  refine r_topv (y := va_rf ((rT th).map ad)) (by rw [hth]) ?_
  refine r_kv hw (r_runV (rest := []) hC hw 2 (c_X3_setThingQ l _ _ 2 12 xa (rT th) (by assumption) (rT_live hthv hX.1) (wXl 2 (by decide)) wXc2 (wXl 12 (by decide)) wXc12) rk3 (wXl 2 (by decide)) wXc2 2 gX4_perform_X3_setThing rfl rfl rfl (by decide +kernel) ⟨Nat.le_of_ble_eq_true rfl, Nat.le_of_ble_eq_true rfl⟩ rfl hl.1 rfl (Nat.le_of_ble_eq_true rfl) dX4_perform_202 ⟨Nat.le_of_ble_eq_true rfl, Nat.le_of_ble_eq_true rfl⟩) (fun u_3 H locs h_1 hw => ?_)
  replace hw := xS_refs (v := th) rfl hw
  refine lv_iconst (v := 0) hx hb dX4_perform_205 (by decide) ?_
  exact r_iret hC hr hlk hw ((uA κ 3 (aN xa) th), τ, ad) rfl ⟨⟨(doR0 (κ := κ) (hd := hd) (th := th) (k := 69) (a := xa) (b := xb) (c := xc) rfl).symm, _, rfl, fun _ => rfl⟩, fun _ _ => rfl⟩ (show _ ≤ 4 * g by omega) (show _ ≤ 44 * g by omega) dX4_perform_206

set_option maxHeartbeats 4000000 in
set_option maxRecDepth 100000 in
theorem c_X4_perform_70 (l : Launch) {D : va_G} {q : Nat → ClassId} {ad : Nat → Nat} {κ : KS} {τ : TAU} (sz : Nat) (ρ : Nat) (xa xb xc hd th : Int32) (hst : stepAt q ad κ τ ρ 70 xa xb xc) (hs : okStep 70 xa xb xc)(hX : WFx κ) (hm : vp_in (sI κ 2) 61) (hF : WFa κ τ (aN (sI κ 2))) (hρ : 400 ≤ ρ) (hB : FB κ) (hc6 : ∃ n, n ≤ 12 ∧ sI κ 6 = nI n) (hT : ¬ sI κ 7 < 0) (hhd : hd = sI κ 9) (hth : τ.2.2.2 = rT th) (hthv : ¬ th = 0 → aN (th - 1) < aN (sI κ 2)) (g : Nat) (hg : why κ 70 xa xb xc = 0 → mkN κ 70 xb ≤ g) : Met l yX4_perform wsX4_perform (rmc 4 99 (4 * g) (44 * g)) (va_Pc [.ref (ad 3), .ref (ad ρ)] (rPre D q (wX q ad κ τ) sz)) (va_Qi (fun (r : Int32) (u : KS × TAU × (Nat → Nat)) => ((r, u.1) = doR κ hd th 70 xa xb xc ∧ ∃ v, u.2.1 = (τ.1, τ.2.1, v, τ.2.2.2) ∧ (r = 0 → v = nxt κ 70 xa xb τ.2.2.1)) ∧ ∀ i, lvX κ i → u.2.2 i = ad i) (fun (u : KS × TAU × (Nat → Nat)) tt => rPo D (rA (wX q ad κ τ) sz) (wX q u.2.2 u.1 u.2.1) tt) (rA (wX q ad κ τ) sz)) (4 * g) (44 * g) (rA (wX q ad κ τ) sz) := by
  have hi0 : vp_in xa 8 := hs.1
  have hi1 : vp_in xb 8 := hs.2.1
  refine r_start (cc := cX4_perform) (maxL := 2) (ret := (some .int)) (by decide) rfl (Nat.le_of_ble_eq_true rfl) ?_
  intro p e s m below meth c ls hC hr hlk hnm hsz hw hl
  have hx := hC.1
  have hb := hC.2.1
  have hl : lv_has ls 2 [(0, .ref (ad 3)), (1, .ref (ad ρ))] := hl
  refine lv_aload_n hx hb dX4_perform_0 rfl (lv_at hl 1 rfl) ?_
  refine r_get hC hw rk5 in_X4_perform_5 ρ hst.1 hst.2 0 (by decide) lk_X4_perform_95 (v := .int 70) rfl dX4_perform_1 ?_
  refine lv_iconst (v := 1) hx hb dX4_perform_4 (by decide) ?_
  refine lv_icmp_lt (tgt := 26) hx hb dX4_perform_5 (by decide) (fun c_ => absurd c_ (by decide)) (fun _ => ?_)
  refine lv_aload_n hx hb dX4_perform_8 rfl (lv_at hl 1 rfl) ?_
  refine r_get hC hw rk5 in_X4_perform_5 ρ hst.1 hst.2 0 (by decide) lk_X4_perform_95 (v := .int 70) rfl dX4_perform_9 ?_
  refine lv_bipush (v := 26) hx hb dX4_perform_12 (by decide) ?_
  refine lv_icmp_gt (tgt := 26) hx hb dX4_perform_14 (by decide) (fun _ => ?_) (fun c_ => absurd (by decide) c_)
  refine lv_aload_n hx hb dX4_perform_26 rfl (lv_at hl 1 rfl) ?_
  refine r_get hC hw rk5 in_X4_perform_5 ρ hst.1 hst.2 0 (by decide) lk_X4_perform_95 (v := .int 70) rfl dX4_perform_27 ?_
  refine lv_lookup (off := 211) (tgt := 241) hx hb dX4_perform_30 (by decide) (by decide) (by decide) ?_
  refine lv_aload_n hx hb dX4_perform_241 rfl (lv_at hl 0 rfl) ?_
  refine r_get hC hw rk4 in_X4_perform_4 3 (wXl 3 (by decide)) wXc3 3 (by decide) lk_X4_perform_31 (v := .ref (ad 5)) rfl dX4_perform_242 ?_
  refine lv_aload_n hx hb dX4_perform_245 rfl (lv_at hl 1 rfl) ?_
  refine r_ki hw (r_runV (rest := []) hC hw 5 (c_X7_weave_70 l _ ρ xa xb xc hd th hst hs hX (nn_FB hB 70 _ _ _ (by decide) (by decide))) rk7 (wXl 5 (by decide)) wXc5 1 gX4_perform_X7_weave rfl rfl rfl (by decide +kernel) ⟨Nat.le_of_ble_eq_true rfl, Nat.le_of_ble_eq_true rfl⟩ rfl hl.1 rfl (Nat.le_of_ble_eq_true rfl) dX4_perform_246 ⟨Nat.le_of_ble_eq_true rfl, Nat.le_of_ble_eq_true rfl⟩) (fun r_2 u_3 H locs h_1 hw => ?_)
  exact r_iret hC hr hlk hw (u_3, τ, ad) rfl ⟨⟨h_1, τ.2.2.1, rfl, fun _ => rfl⟩, fun _ _ => rfl⟩ (show _ ≤ 4 * g by omega) (show _ ≤ 44 * g by omega) dX4_perform_249

set_option maxHeartbeats 4000000 in
set_option maxRecDepth 100000 in
theorem c_X4_perform_71 (l : Launch) {D : va_G} {q : Nat → ClassId} {ad : Nat → Nat} {κ : KS} {τ : TAU} (sz : Nat) (ρ : Nat) (xa xb xc hd th : Int32) (hst : stepAt q ad κ τ ρ 71 xa xb xc) (hs : okStep 71 xa xb xc)(hX : WFx κ) (hm : vp_in (sI κ 2) 61) (hF : WFa κ τ (aN (sI κ 2))) (hρ : 400 ≤ ρ) (hB : FB κ) (hc6 : ∃ n, n ≤ 12 ∧ sI κ 6 = nI n) (hT : ¬ sI κ 7 < 0) (hhd : hd = sI κ 9) (hth : τ.2.2.2 = rT th) (hthv : ¬ th = 0 → aN (th - 1) < aN (sI κ 2)) (g : Nat) (hg : why κ 71 xa xb xc = 0 → mkN κ 71 xb ≤ g) : Met l yX4_perform wsX4_perform (rmc 4 99 (4 * g) (44 * g)) (va_Pc [.ref (ad 3), .ref (ad ρ)] (rPre D q (wX q ad κ τ) sz)) (va_Qi (fun (r : Int32) (u : KS × TAU × (Nat → Nat)) => ((r, u.1) = doR κ hd th 71 xa xb xc ∧ ∃ v, u.2.1 = (τ.1, τ.2.1, v, τ.2.2.2) ∧ (r = 0 → v = nxt κ 71 xa xb τ.2.2.1)) ∧ ∀ i, lvX κ i → u.2.2 i = ad i) (fun (u : KS × TAU × (Nat → Nat)) tt => rPo D (rA (wX q ad κ τ) sz) (wX q u.2.2 u.1 u.2.1) tt) (rA (wX q ad κ τ) sz)) (4 * g) (44 * g) (rA (wX q ad κ τ) sz) := by
  have hi0 : vp_in xa 8 := hs.1
  have hi1 : vp_in xb 8 := hs.2.1
  refine r_start (cc := cX4_perform) (maxL := 2) (ret := (some .int)) (by decide) rfl (Nat.le_of_ble_eq_true rfl) ?_
  intro p e s m below meth c ls hC hr hlk hnm hsz hw hl
  have hx := hC.1
  have hb := hC.2.1
  have hl : lv_has ls 2 [(0, .ref (ad 3)), (1, .ref (ad ρ))] := hl
  refine lv_aload_n hx hb dX4_perform_0 rfl (lv_at hl 1 rfl) ?_
  refine r_get hC hw rk5 in_X4_perform_5 ρ hst.1 hst.2 0 (by decide) lk_X4_perform_95 (v := .int 71) rfl dX4_perform_1 ?_
  refine lv_iconst (v := 1) hx hb dX4_perform_4 (by decide) ?_
  refine lv_icmp_lt (tgt := 26) hx hb dX4_perform_5 (by decide) (fun c_ => absurd c_ (by decide)) (fun _ => ?_)
  refine lv_aload_n hx hb dX4_perform_8 rfl (lv_at hl 1 rfl) ?_
  refine r_get hC hw rk5 in_X4_perform_5 ρ hst.1 hst.2 0 (by decide) lk_X4_perform_95 (v := .int 71) rfl dX4_perform_9 ?_
  refine lv_bipush (v := 26) hx hb dX4_perform_12 (by decide) ?_
  refine lv_icmp_gt (tgt := 26) hx hb dX4_perform_14 (by decide) (fun _ => ?_) (fun c_ => absurd (by decide) c_)
  refine lv_aload_n hx hb dX4_perform_26 rfl (lv_at hl 1 rfl) ?_
  refine r_get hC hw rk5 in_X4_perform_5 ρ hst.1 hst.2 0 (by decide) lk_X4_perform_95 (v := .int 71) rfl dX4_perform_27 ?_
  refine lv_lookup (off := 211) (tgt := 241) hx hb dX4_perform_30 (by decide) (by decide) (by decide) ?_
  refine lv_aload_n hx hb dX4_perform_241 rfl (lv_at hl 0 rfl) ?_
  refine r_get hC hw rk4 in_X4_perform_4 3 (wXl 3 (by decide)) wXc3 3 (by decide) lk_X4_perform_31 (v := .ref (ad 5)) rfl dX4_perform_242 ?_
  refine lv_aload_n hx hb dX4_perform_245 rfl (lv_at hl 1 rfl) ?_
  refine r_ki hw (r_runV (rest := []) hC hw 5 (c_X7_weave_71 l _ ρ xa xb xc hd th hst hs hX (nn_FB hB 71 _ _ _ (by decide) (by decide))) rk7 (wXl 5 (by decide)) wXc5 1 gX4_perform_X7_weave rfl rfl rfl (by decide +kernel) ⟨Nat.le_of_ble_eq_true rfl, Nat.le_of_ble_eq_true rfl⟩ rfl hl.1 rfl (Nat.le_of_ble_eq_true rfl) dX4_perform_246 ⟨Nat.le_of_ble_eq_true rfl, Nat.le_of_ble_eq_true rfl⟩) (fun r_2 u_3 H locs h_1 hw => ?_)
  exact r_iret hC hr hlk hw (u_3, τ, ad) rfl ⟨⟨h_1, τ.2.2.1, rfl, fun _ => rfl⟩, fun _ _ => rfl⟩ (show _ ≤ 4 * g by omega) (show _ ≤ 44 * g by omega) dX4_perform_249

set_option maxHeartbeats 4000000 in
set_option maxRecDepth 100000 in
theorem c_X4_perform_72 (l : Launch) {D : va_G} {q : Nat → ClassId} {ad : Nat → Nat} {κ : KS} {τ : TAU} (sz : Nat) (ρ : Nat) (xa xb xc hd th : Int32) (hst : stepAt q ad κ τ ρ 72 xa xb xc) (hs : okStep 72 xa xb xc)(hX : WFx κ) (hm : vp_in (sI κ 2) 61) (hF : WFa κ τ (aN (sI κ 2))) (hρ : 400 ≤ ρ) (hB : FB κ) (hc6 : ∃ n, n ≤ 12 ∧ sI κ 6 = nI n) (hT : ¬ sI κ 7 < 0) (hhd : hd = sI κ 9) (hth : τ.2.2.2 = rT th) (hthv : ¬ th = 0 → aN (th - 1) < aN (sI κ 2)) (g : Nat) (hg : why κ 72 xa xb xc = 0 → mkN κ 72 xb ≤ g) : Met l yX4_perform wsX4_perform (rmc 4 99 (4 * g) (44 * g)) (va_Pc [.ref (ad 3), .ref (ad ρ)] (rPre D q (wX q ad κ τ) sz)) (va_Qi (fun (r : Int32) (u : KS × TAU × (Nat → Nat)) => ((r, u.1) = doR κ hd th 72 xa xb xc ∧ ∃ v, u.2.1 = (τ.1, τ.2.1, v, τ.2.2.2) ∧ (r = 0 → v = nxt κ 72 xa xb τ.2.2.1)) ∧ ∀ i, lvX κ i → u.2.2 i = ad i) (fun (u : KS × TAU × (Nat → Nat)) tt => rPo D (rA (wX q ad κ τ) sz) (wX q u.2.2 u.1 u.2.1) tt) (rA (wX q ad κ τ) sz)) (4 * g) (44 * g) (rA (wX q ad κ τ) sz) := by
  have hi0 : vp_in xa 8 := hs.1
  refine r_start (cc := cX4_perform) (maxL := 2) (ret := (some .int)) (by decide) rfl (Nat.le_of_ble_eq_true rfl) ?_
  intro p e s m below meth c ls hC hr hlk hnm hsz hw hl
  have hx := hC.1
  have hb := hC.2.1
  have hl : lv_has ls 2 [(0, .ref (ad 3)), (1, .ref (ad ρ))] := hl
  refine lv_aload_n hx hb dX4_perform_0 rfl (lv_at hl 1 rfl) ?_
  refine r_get hC hw rk5 in_X4_perform_5 ρ hst.1 hst.2 0 (by decide) lk_X4_perform_95 (v := .int 72) rfl dX4_perform_1 ?_
  refine lv_iconst (v := 1) hx hb dX4_perform_4 (by decide) ?_
  refine lv_icmp_lt (tgt := 26) hx hb dX4_perform_5 (by decide) (fun c_ => absurd c_ (by decide)) (fun _ => ?_)
  refine lv_aload_n hx hb dX4_perform_8 rfl (lv_at hl 1 rfl) ?_
  refine r_get hC hw rk5 in_X4_perform_5 ρ hst.1 hst.2 0 (by decide) lk_X4_perform_95 (v := .int 72) rfl dX4_perform_9 ?_
  refine lv_bipush (v := 26) hx hb dX4_perform_12 (by decide) ?_
  refine lv_icmp_gt (tgt := 26) hx hb dX4_perform_14 (by decide) (fun _ => ?_) (fun c_ => absurd (by decide) c_)
  refine lv_aload_n hx hb dX4_perform_26 rfl (lv_at hl 1 rfl) ?_
  refine r_get hC hw rk5 in_X4_perform_5 ρ hst.1 hst.2 0 (by decide) lk_X4_perform_95 (v := .int 72) rfl dX4_perform_27 ?_
  refine lv_lookup (off := 177) (tgt := 207) hx hb dX4_perform_30 (by decide) (by decide) (by decide) ?_
  refine lv_aload_n hx hb dX4_perform_207 rfl (lv_at hl 0 rfl) ?_
  refine r_get hC hw rk4 in_X4_perform_4 3 (wXl 3 (by decide)) wXc3 1 (by decide) lk_X4_perform_15 (v := .ref (ad 2)) rfl dX4_perform_208 ?_
  refine lv_aload_n hx hb dX4_perform_211 rfl (lv_at hl 1 rfl) ?_
  refine r_get hC hw rk5 in_X4_perform_5 ρ hst.1 hst.2 1 (by decide) lk_X4_perform_103 (v := .int xa) rfl dX4_perform_212 ?_
  refine lv_aload_n hx hb dX4_perform_215 rfl (lv_at hl 0 rfl) ?_
  refine r_get hC hw rk4 in_X4_perform_4 3 (wXl 3 (by decide)) wXc3 13 (by decide) lk_X4_perform_58 (v := .int (sI κ 9)) rfl dX4_perform_216 ?_
  refine r_kv hw (r_runV (rest := []) hC hw 2 (c_X3_setWord l _ _ 2 8 xa (sI κ 9) (by assumption) (wXl 2 (by decide)) wXc2 (wXl 8 (by decide)) wXc8) rk3 (wXl 2 (by decide)) wXc2 2 gX4_perform_X3_setWord rfl rfl rfl (by decide +kernel) ⟨Nat.le_of_ble_eq_true rfl, Nat.le_of_ble_eq_true rfl⟩ rfl hl.1 rfl (Nat.le_of_ble_eq_true rfl) dX4_perform_219 ⟨Nat.le_of_ble_eq_true rfl, Nat.le_of_ble_eq_true rfl⟩) (fun u_3 H locs h_1 hw => ?_)
  replace hw := xS_words hw
  refine lv_iconst (v := 0) hx hb dX4_perform_222 (by decide) ?_
  exact r_iret hC hr hlk hw ((uA κ 2 (aN xa) (sI κ 9)), τ, ad) rfl ⟨⟨(by rw [← hhd]; exact (doR0 (κ := κ) (hd := hd) (th := th) (k := 72) (a := xa) (b := xb) (c := xc) rfl).symm), _, rfl, fun _ => rfl⟩, fun _ _ => rfl⟩ (show _ ≤ 4 * g by omega) (show _ ≤ 44 * g by omega) dX4_perform_223

set_option maxHeartbeats 4000000 in
set_option maxRecDepth 100000 in
theorem c_X4_perform_73 (l : Launch) {D : va_G} {q : Nat → ClassId} {ad : Nat → Nat} {κ : KS} {τ : TAU} (sz : Nat) (ρ : Nat) (xa xb xc hd th : Int32) (hst : stepAt q ad κ τ ρ 73 xa xb xc) (hs : okStep 73 xa xb xc)(hX : WFx κ) (hm : vp_in (sI κ 2) 61) (hF : WFa κ τ (aN (sI κ 2))) (hρ : 400 ≤ ρ) (hB : FB κ) (hc6 : ∃ n, n ≤ 12 ∧ sI κ 6 = nI n) (hT : ¬ sI κ 7 < 0) (hhd : hd = sI κ 9) (hth : τ.2.2.2 = rT th) (hthv : ¬ th = 0 → aN (th - 1) < aN (sI κ 2)) (g : Nat) (hg : why κ 73 xa xb xc = 0 → mkN κ 73 xb ≤ g) : Met l yX4_perform wsX4_perform (rmc 4 99 (4 * g) (44 * g)) (va_Pc [.ref (ad 3), .ref (ad ρ)] (rPre D q (wX q ad κ τ) sz)) (va_Qi (fun (r : Int32) (u : KS × TAU × (Nat → Nat)) => ((r, u.1) = doR κ hd th 73 xa xb xc ∧ ∃ v, u.2.1 = (τ.1, τ.2.1, v, τ.2.2.2) ∧ (r = 0 → v = nxt κ 73 xa xb τ.2.2.1)) ∧ ∀ i, lvX κ i → u.2.2 i = ad i) (fun (u : KS × TAU × (Nat → Nat)) tt => rPo D (rA (wX q ad κ τ) sz) (wX q u.2.2 u.1 u.2.1) tt) (rA (wX q ad κ τ) sz)) (4 * g) (44 * g) (rA (wX q ad κ τ) sz) := by
  have hi0 : vp_in xa 8 := hs.1
  refine r_start (cc := cX4_perform) (maxL := 2) (ret := (some .int)) (by decide) rfl (Nat.le_of_ble_eq_true rfl) ?_
  intro p e s m below meth c ls hC hr hlk hnm hsz hw hl
  have hx := hC.1
  have hb := hC.2.1
  have hl : lv_has ls 2 [(0, .ref (ad 3)), (1, .ref (ad ρ))] := hl
  refine lv_aload_n hx hb dX4_perform_0 rfl (lv_at hl 1 rfl) ?_
  refine r_get hC hw rk5 in_X4_perform_5 ρ hst.1 hst.2 0 (by decide) lk_X4_perform_95 (v := .int 73) rfl dX4_perform_1 ?_
  refine lv_iconst (v := 1) hx hb dX4_perform_4 (by decide) ?_
  refine lv_icmp_lt (tgt := 26) hx hb dX4_perform_5 (by decide) (fun c_ => absurd c_ (by decide)) (fun _ => ?_)
  refine lv_aload_n hx hb dX4_perform_8 rfl (lv_at hl 1 rfl) ?_
  refine r_get hC hw rk5 in_X4_perform_5 ρ hst.1 hst.2 0 (by decide) lk_X4_perform_95 (v := .int 73) rfl dX4_perform_9 ?_
  refine lv_bipush (v := 26) hx hb dX4_perform_12 (by decide) ?_
  refine lv_icmp_gt (tgt := 26) hx hb dX4_perform_14 (by decide) (fun _ => ?_) (fun c_ => absurd (by decide) c_)
  refine lv_aload_n hx hb dX4_perform_26 rfl (lv_at hl 1 rfl) ?_
  refine r_get hC hw rk5 in_X4_perform_5 ρ hst.1 hst.2 0 (by decide) lk_X4_perform_95 (v := .int 73) rfl dX4_perform_27 ?_
  refine lv_lookup (off := 194) (tgt := 224) hx hb dX4_perform_30 (by decide) (by decide) (by decide) ?_
  refine lv_aload_n hx hb dX4_perform_224 rfl (lv_at hl 0 rfl) ?_
  refine lv_aload_n hx hb dX4_perform_225 rfl (lv_at hl 0 rfl) ?_
  refine r_get hC hw rk4 in_X4_perform_4 3 (wXl 3 (by decide)) wXc3 1 (by decide) lk_X4_perform_15 (v := .ref (ad 2)) rfl dX4_perform_226 ?_
  refine lv_aload_n hx hb dX4_perform_229 rfl (lv_at hl 1 rfl) ?_
  refine r_get hC hw rk5 in_X4_perform_5 ρ hst.1 hst.2 1 (by decide) lk_X4_perform_103 (v := .int xa) rfl dX4_perform_230 ?_
  refine r_ki hw (r_runV (rest := [.ref (ad 3)]) hC hw 2 (c_X3_getWord l _ _ 2 8 xa (wXl 2 (by decide)) wXc2 (wXl 8 (by decide)) wXc8) rk3 (wXl 2 (by decide)) wXc2 1 gX4_perform_X3_getWord rfl rfl rfl (by decide +kernel) ⟨Nat.le_of_ble_eq_true rfl, Nat.le_of_ble_eq_true rfl⟩ rfl hl.1 rfl (Nat.le_of_ble_eq_true rfl) dX4_perform_233 ⟨Nat.le_of_ble_eq_true rfl, Nat.le_of_ble_eq_true rfl⟩) (fun r_2 u_3 H locs h_1 hw => ?_)
  subst h_1
  refine r_topv (y := .int (sA κ 2 (aN xa))) (congrArg _ (gN_in (by assumption) (by decide))) ?_
  refine r_kv hw (r_runV (rest := []) hC hw 3 (c_X4_tell (ad := ad) l _ (sA κ 2 (aN xa)) hT) rk4 (wXl 3 (by decide)) wXc3 1 gX4_perform_X4_tell rfl rfl rfl (by decide +kernel) ⟨Nat.le_of_ble_eq_true rfl, Nat.le_of_ble_eq_true rfl⟩ rfl hl.1 rfl (Nat.le_of_ble_eq_true rfl) dX4_perform_236 ⟨Nat.le_of_ble_eq_true rfl, Nat.le_of_ble_eq_true rfl⟩) (fun u_6 H locs h_4 hw => ?_)
  subst h_4
  dsimp only at hw
  refine lv_iconst (v := 0) hx hb dX4_perform_239 (by decide) ?_
  exact r_iret hC hr hlk hw (_, τ, ad) rfl ⟨⟨(doR0 (κ := κ) (hd := hd) (th := th) (k := 73) (a := xa) (b := xb) (c := xc) rfl).symm, τ.2.2.1, rfl, fun _ => rfl⟩, fun _ _ => rfl⟩ (show _ ≤ 4 * g by omega) (show _ ≤ 44 * g by omega) dX4_perform_240

