/-! things: what holds of them -/
def WFx (κ : KS) : Prop := aN (sI κ 2) ≤ 60 ∧ (∀ x, vp_in x 8 → ¬ sA κ 3 (aN x) = 0 → vp_in (sA κ 3 (aN x) - 1) 60 ∧ aN (sA κ 3 (aN x) - 1) < aN (sI κ 2)) ∧ (∀ k, k < aN (sI κ 2) → vp_in (sA κ 4 k) 16 ∧ vp_in (sA κ 5 k) 13) ∧ (∀ k, k < aN (sI κ 2) → ¬ sA κ 8 k = 0 → aN (sA κ 8 k - 1) < aN (sI κ 2)) ∧ ∀ k j, k < aN (sI κ 2) → j < 12 → ¬ sA κ 6 (12 * k + j) = 0 → aN (sA κ 6 (12 * k + j) - 1) < aN (sI κ 2)
theorem rT0 {x : Int32} (h : x = 0) : rT x = none := if_pos h
theorem rT1 {x : Int32} (h : ¬ x = 0) : rT x = some (100 + 4 * aN (x - 1)) := if_neg h
theorem thl {q : Nat → ClassId} {ad : Nat → Nat} {κ : KS} {τ : TAU} {k : Nat} (h : k < aN (sI κ 2)) : (wX q ad κ τ).2.1 (100 + 4 * k) := Or.inr (Or.inl ⟨by omega, by omega⟩)
theorem thl1 {q : Nat → ClassId} {ad : Nat → Nat} {κ : KS} {τ : TAU} {k : Nat} (h : k < aN (sI κ 2)) : (wX q ad κ τ).2.1 (101 + 4 * k) := Or.inr (Or.inl ⟨by omega, by omega⟩)
theorem thl2 {q : Nat → ClassId} {ad : Nat → Nat} {κ : KS} {τ : TAU} {k : Nat} (h : k < aN (sI κ 2)) : (wX q ad κ τ).2.1 (102 + 4 * k) := Or.inr (Or.inl ⟨by omega, by omega⟩)
theorem thl3 {q : Nat → ClassId} {ad : Nat → Nat} {κ : KS} {τ : TAU} {k : Nat} (h : k < aN (sI κ 2)) : (wX q ad κ τ).2.1 (103 + 4 * k) := Or.inr (Or.inl ⟨by omega, by omega⟩)
theorem thc {q : Nat → ClassId} {ad : Nat → Nat} {κ : KS} {τ : TAU} {k : Nat} (h : k < 60) : (wX q ad κ τ).2.2 (100 + 4 * k) = .inr (6, fsT ad κ k) := exT0 (by omega)
theorem thc1 {q : Nat → ClassId} {ad : Nat → Nat} {κ : KS} {τ : TAU} {k : Nat} (h : k < 60) : (wX q ad κ τ).2.2 (101 + 4 * k) = .inl (q 1, lnN κ k, .inr (.inl (tr 0 (sJ κ 1) k))) := exT1 (by omega)
theorem thc2 {q : Nat → ClassId} {ad : Nat → Nat} {κ : KS} {τ : TAU} {k : Nat} (h : k < 60) : (wX q ad κ τ).2.2 (102 + 4 * k) = .inl (q 3, lnP κ k, .inr (.inr (.inr (.inl (tr FP.dconst0 (sD κ 1) k))))) := exT2 (by omega)
theorem thc3 {q : Nat → ClassId} {ad : Nat → Nat} {κ : KS} {τ : TAU} {k : Nat} (h : k < 60) : (wX q ad κ τ).2.2 (103 + 4 * k) = .inl (q 6, lnM κ k, .inr (.inr (.inr (.inr (fun j => (rT (tr 0 (sA κ 6) k j)).map ad))))) := exT3 (by omega)
theorem hp_eq {w z : Int32} (hz : vp_in z 13) : (if 0 ≤ w then (if z ≤ w then (0 : Int32) else 1) else 0) = if pIn w 0 (z - 1) then 1 else 0 := by
  obtain ⟨n, hn, rfl⟩ := vp_in_of hz (by decide)
  by_cases h0 : 0 ≤ w
  · rw [if_pos h0]
    obtain ⟨j, hj, rfl⟩ := nI_of (Int32.not_lt.mpr h0)
    cases n with
    | zero =>
      rw [if_pos (by rw [nI_0]; exact h0), if_neg]
      intro h
      exact h.2 (Int32.lt_of_lt_of_le (b := 0) (by decide) h0)
    | succ n =>
      by_cases hl : nI (n + 1) ≤ nI j
      · rw [if_pos hl, if_neg]
        intro h
        rw [nI_pred] at h
        have h1 := (nI_leI (by omega) hj).mp hl
        exact h.2 (nI_lt (by omega) hj)
      · rw [if_neg hl, if_pos]
        refine ⟨Int32.not_lt.mpr h0, ?_⟩
        rw [nI_pred]
        intro h
        have h1 := (nI_ltI (by omega) hj).mp h
        exact hl (nI_le (by omega) hj)
  · rw [if_neg h0, if_neg]
    intro h
    exact h0 (Int32.not_lt.mp h.1)
theorem ixN {r w z : Int32} (hr : vp_in (r - 1) 60) (hw : pIn w 0 (z - 1)) (hz : vp_in z 13) : aN (12 * (r - 1) + w) = 12 * aN (r - 1) + aN w ∧ aN w < 12 ∧ vp_in w (aN z) := by
  have hv := pin12 hw hz
  obtain ⟨n, hn, e⟩ := vp_in_of hr (by decide)
  obtain ⟨j, hj, e2⟩ := vp_in_of hv (by decide)
  rw [e, e2]
  have a1 : aN (nI n) = n := nI_clamp (by omega)
  have a2 : aN (nI j) = j := nI_clamp (by omega)
  refine ⟨?_, by rw [a2]; exact hj, ?_⟩
  · rw [show (12 : Int32) = nI 12 from rfl, pk_mul, nI_add, a1, a2]
    exact nI_clamp (by omega)
  · obtain ⟨m, hm, rfl⟩ := vp_in_of hz (by decide)
    rw [show aN (nI m) = m from nI_clamp (by omega)]
    subst e2
    obtain ⟨_, h2⟩ := hw
    cases m with
    | zero => exact absurd (Int32.lt_of_lt_of_le (b := 0) (by decide) (nI_pos' (by omega))) h2
    | succ m =>
      rw [nI_pred] at h2
      have : ¬ m < j := fun q => h2 (nI_lt q (by omega))
      exact vp_in_nI (by omega) (by omega)
set_option maxHeartbeats 4000000 in
set_option maxRecDepth 100000 in
theorem c_X8_misfitsN_4 (l : Launch) {D : va_G} {q : Nat → ClassId} (w : wT) (sz : Nat) : Met l yX8_misfits wsX8_misfits (rmz 1 21) (va_Pc [.null, .int 4] (rPre D q w sz)) (va_Qi (fun (r : Int32) (u : Unit) => r = 0) (fun (u : Unit) tt => rPo D (rA w sz) w tt) (rA w sz)) 0 0 (rA w sz) := by
  refine r_start (cc := cX8_misfits) (maxL := 2) (ret := (some .boolean)) (by decide) rfl (Nat.le_of_ble_eq_true rfl) ?_
  intro p e s m below meth c ls hC hr hlk hnm hsz hw hl
  have hx := hC.1
  have hb := hC.2.1
  have hl : lv_has ls 2 [(0, .null), (1, .int 4)] := hl
  refine lv_aload_nN hx hb dX8_misfits_0 rfl (lv_at hl 0 rfl) ?_
  refine lv_ifnullN (tgt := 16) hx hb dX8_misfits_1 (by decide) ?_
  refine lv_iconst (v := 0) hx hb dX8_misfits_16 (by decide) ?_
  exact r_zret hC hr (by decide) hlk hw () rfl rfl (Nat.le_of_ble_eq_true rfl) (Nat.le_of_ble_eq_true rfl) dX8_misfits_17

set_option maxHeartbeats 4000000 in
set_option maxRecDepth 100000 in
theorem c_X8_misfits_4 (l : Launch) {D : va_G} {q : Nat → ClassId} (w : wT) (sz : Nat) (i : Nat) {x1 x2 x3 x4 : Value} {kd pl tg : Int32} {wt : Int64} (hk : vp_in kd 16) (hl_i : w.2.1 i) (hc_i : w.2.2 i = .inr (6, [.int kd, .int pl, x1, x2, x3, .int tg, .long wt, x4])) : Met l yX8_misfits wsX8_misfits (rmz 1 21) (va_Pc [.ref (w.1 i), .int 4] (rPre D q w sz)) (va_Qi (fun (r : Int32) (u : Unit) => r = if pOf kd 4 then 0 else 1) (fun (u : Unit) tt => rPo D (rA w sz) w tt) (rA w sz)) 0 0 (rA w sz) := by
  refine r_start (cc := cX8_misfits) (maxL := 2) (ret := (some .boolean)) (by decide) rfl (Nat.le_of_ble_eq_true rfl) ?_
  intro p e s m below meth c ls hC hr hlk hnm hsz hw hl
  have hx := hC.1
  have hb := hC.2.1
  have hl : lv_has ls 2 [(0, .ref (w.1 i)), (1, .int 4)] := hl
  refine lv_aload_n hx hb dX8_misfits_0 rfl (lv_at hl 0 rfl) ?_
  refine lv_ifnull hx hb dX8_misfits_1 ?_
  refine lv_aload_n hx hb dX8_misfits_4 rfl (lv_at hl 0 rfl) ?_
  refine lv_iload_n hx hb dX8_misfits_5 rfl (lv_at hl 1 rfl) ?_
  refine r_ki hw (r_runV (rest := []) hC hw i (c_X6_isOf_4 l _ _ i hk hl_i hc_i) rk6 hl_i hc_i 1 gX8_misfits_X6_isOf rfl rfl rfl (by decide +kernel) ⟨Nat.le_of_ble_eq_true rfl, Nat.le_of_ble_eq_true rfl⟩ rfl hl.1 rfl (Nat.le_of_ble_eq_true rfl) dX8_misfits_6 ⟨Nat.le_of_ble_eq_true rfl, Nat.le_of_ble_eq_true rfl⟩) (fun r_2 u_3 H locs h_1 hw => ?_)
  by_cases c_4 : pOf kd 4
  · rw [if_pos c_4] at h_1
    subst h_1
    refine lv_if_ne (tgt := 16) hx hb dX8_misfits_9 (by decide) (fun _ => ?_) (fun c_ => absurd c_ (by decide))
    refine lv_iconst (v := 0) hx hb dX8_misfits_16 (by decide) ?_
    exact r_zret hC hr (by decide) hlk hw () rfl (if_pos c_4).symm (Nat.le_of_ble_eq_true rfl) (Nat.le_of_ble_eq_true rfl) dX8_misfits_17
  · rw [if_neg c_4] at h_1
    subst h_1
    refine lv_if_ne (tgt := 16) hx hb dX8_misfits_9 (by decide) (fun c_ => absurd (by decide) c_) (fun _ => ?_)
    refine lv_iconst (v := 1) hx hb dX8_misfits_12 (by decide) ?_
    refine lv_goto (tgt := 17) hx hb dX8_misfits_13 (by decide) ?_
    exact r_zret hC hr (by decide) hlk hw () rfl (if_neg c_4).symm (Nat.le_of_ble_eq_true rfl) (Nat.le_of_ble_eq_true rfl) dX8_misfits_17

set_option maxHeartbeats 4000000 in
set_option maxRecDepth 100000 in
theorem c_X8_misfitsN_8 (l : Launch) {D : va_G} {q : Nat → ClassId} (w : wT) (sz : Nat) : Met l yX8_misfits wsX8_misfits (rmz 1 21) (va_Pc [.null, .int 8] (rPre D q w sz)) (va_Qi (fun (r : Int32) (u : Unit) => r = 0) (fun (u : Unit) tt => rPo D (rA w sz) w tt) (rA w sz)) 0 0 (rA w sz) := by
  refine r_start (cc := cX8_misfits) (maxL := 2) (ret := (some .boolean)) (by decide) rfl (Nat.le_of_ble_eq_true rfl) ?_
  intro p e s m below meth c ls hC hr hlk hnm hsz hw hl
  have hx := hC.1
  have hb := hC.2.1
  have hl : lv_has ls 2 [(0, .null), (1, .int 8)] := hl
  refine lv_aload_nN hx hb dX8_misfits_0 rfl (lv_at hl 0 rfl) ?_
  refine lv_ifnullN (tgt := 16) hx hb dX8_misfits_1 (by decide) ?_
  refine lv_iconst (v := 0) hx hb dX8_misfits_16 (by decide) ?_
  exact r_zret hC hr (by decide) hlk hw () rfl rfl (Nat.le_of_ble_eq_true rfl) (Nat.le_of_ble_eq_true rfl) dX8_misfits_17

set_option maxHeartbeats 4000000 in
set_option maxRecDepth 100000 in
theorem c_X8_misfits_8 (l : Launch) {D : va_G} {q : Nat → ClassId} (w : wT) (sz : Nat) (i : Nat) {x1 x2 x3 x4 : Value} {kd pl tg : Int32} {wt : Int64} (hk : vp_in kd 16) (hl_i : w.2.1 i) (hc_i : w.2.2 i = .inr (6, [.int kd, .int pl, x1, x2, x3, .int tg, .long wt, x4])) : Met l yX8_misfits wsX8_misfits (rmz 1 21) (va_Pc [.ref (w.1 i), .int 8] (rPre D q w sz)) (va_Qi (fun (r : Int32) (u : Unit) => r = if pOf kd 8 then 0 else 1) (fun (u : Unit) tt => rPo D (rA w sz) w tt) (rA w sz)) 0 0 (rA w sz) := by
  refine r_start (cc := cX8_misfits) (maxL := 2) (ret := (some .boolean)) (by decide) rfl (Nat.le_of_ble_eq_true rfl) ?_
  intro p e s m below meth c ls hC hr hlk hnm hsz hw hl
  have hx := hC.1
  have hb := hC.2.1
  have hl : lv_has ls 2 [(0, .ref (w.1 i)), (1, .int 8)] := hl
  refine lv_aload_n hx hb dX8_misfits_0 rfl (lv_at hl 0 rfl) ?_
  refine lv_ifnull hx hb dX8_misfits_1 ?_
  refine lv_aload_n hx hb dX8_misfits_4 rfl (lv_at hl 0 rfl) ?_
  refine lv_iload_n hx hb dX8_misfits_5 rfl (lv_at hl 1 rfl) ?_
  refine r_ki hw (r_runV (rest := []) hC hw i (c_X6_isOf_8 l _ _ i hk hl_i hc_i) rk6 hl_i hc_i 1 gX8_misfits_X6_isOf rfl rfl rfl (by decide +kernel) ⟨Nat.le_of_ble_eq_true rfl, Nat.le_of_ble_eq_true rfl⟩ rfl hl.1 rfl (Nat.le_of_ble_eq_true rfl) dX8_misfits_6 ⟨Nat.le_of_ble_eq_true rfl, Nat.le_of_ble_eq_true rfl⟩) (fun r_2 u_3 H locs h_1 hw => ?_)
  by_cases c_4 : pOf kd 8
  · rw [if_pos c_4] at h_1
    subst h_1
    refine lv_if_ne (tgt := 16) hx hb dX8_misfits_9 (by decide) (fun _ => ?_) (fun c_ => absurd c_ (by decide))
    refine lv_iconst (v := 0) hx hb dX8_misfits_16 (by decide) ?_
    exact r_zret hC hr (by decide) hlk hw () rfl (if_pos c_4).symm (Nat.le_of_ble_eq_true rfl) (Nat.le_of_ble_eq_true rfl) dX8_misfits_17
  · rw [if_neg c_4] at h_1
    subst h_1
    refine lv_if_ne (tgt := 16) hx hb dX8_misfits_9 (by decide) (fun c_ => absurd (by decide) c_) (fun _ => ?_)
    refine lv_iconst (v := 1) hx hb dX8_misfits_12 (by decide) ?_
    refine lv_goto (tgt := 17) hx hb dX8_misfits_13 (by decide) ?_
    exact r_zret hC hr (by decide) hlk hw () rfl (if_neg c_4).symm (Nat.le_of_ble_eq_true rfl) (Nat.le_of_ble_eq_true rfl) dX8_misfits_17

set_option maxHeartbeats 4000000 in
set_option maxRecDepth 100000 in
theorem c_X8_misfitsN_9 (l : Launch) {D : va_G} {q : Nat → ClassId} (w : wT) (sz : Nat) : Met l yX8_misfits wsX8_misfits (rmz 1 21) (va_Pc [.null, .int 9] (rPre D q w sz)) (va_Qi (fun (r : Int32) (u : Unit) => r = 0) (fun (u : Unit) tt => rPo D (rA w sz) w tt) (rA w sz)) 0 0 (rA w sz) := by
  refine r_start (cc := cX8_misfits) (maxL := 2) (ret := (some .boolean)) (by decide) rfl (Nat.le_of_ble_eq_true rfl) ?_
  intro p e s m below meth c ls hC hr hlk hnm hsz hw hl
  have hx := hC.1
  have hb := hC.2.1
  have hl : lv_has ls 2 [(0, .null), (1, .int 9)] := hl
  refine lv_aload_nN hx hb dX8_misfits_0 rfl (lv_at hl 0 rfl) ?_
  refine lv_ifnullN (tgt := 16) hx hb dX8_misfits_1 (by decide) ?_
  refine lv_iconst (v := 0) hx hb dX8_misfits_16 (by decide) ?_
  exact r_zret hC hr (by decide) hlk hw () rfl rfl (Nat.le_of_ble_eq_true rfl) (Nat.le_of_ble_eq_true rfl) dX8_misfits_17

set_option maxHeartbeats 4000000 in
set_option maxRecDepth 100000 in
theorem c_X8_misfits_9 (l : Launch) {D : va_G} {q : Nat → ClassId} (w : wT) (sz : Nat) (i : Nat) {x1 x2 x3 x4 : Value} {kd pl tg : Int32} {wt : Int64} (hk : vp_in kd 16) (hl_i : w.2.1 i) (hc_i : w.2.2 i = .inr (6, [.int kd, .int pl, x1, x2, x3, .int tg, .long wt, x4])) : Met l yX8_misfits wsX8_misfits (rmz 1 21) (va_Pc [.ref (w.1 i), .int 9] (rPre D q w sz)) (va_Qi (fun (r : Int32) (u : Unit) => r = if pOf kd 9 then 0 else 1) (fun (u : Unit) tt => rPo D (rA w sz) w tt) (rA w sz)) 0 0 (rA w sz) := by
  refine r_start (cc := cX8_misfits) (maxL := 2) (ret := (some .boolean)) (by decide) rfl (Nat.le_of_ble_eq_true rfl) ?_
  intro p e s m below meth c ls hC hr hlk hnm hsz hw hl
  have hx := hC.1
  have hb := hC.2.1
  have hl : lv_has ls 2 [(0, .ref (w.1 i)), (1, .int 9)] := hl
  refine lv_aload_n hx hb dX8_misfits_0 rfl (lv_at hl 0 rfl) ?_
  refine lv_ifnull hx hb dX8_misfits_1 ?_
  refine lv_aload_n hx hb dX8_misfits_4 rfl (lv_at hl 0 rfl) ?_
  refine lv_iload_n hx hb dX8_misfits_5 rfl (lv_at hl 1 rfl) ?_
  refine r_ki hw (r_runV (rest := []) hC hw i (c_X6_isOf_9 l _ _ i hk hl_i hc_i) rk6 hl_i hc_i 1 gX8_misfits_X6_isOf rfl rfl rfl (by decide +kernel) ⟨Nat.le_of_ble_eq_true rfl, Nat.le_of_ble_eq_true rfl⟩ rfl hl.1 rfl (Nat.le_of_ble_eq_true rfl) dX8_misfits_6 ⟨Nat.le_of_ble_eq_true rfl, Nat.le_of_ble_eq_true rfl⟩) (fun r_2 u_3 H locs h_1 hw => ?_)
  by_cases c_4 : pOf kd 9
  · rw [if_pos c_4] at h_1
    subst h_1
    refine lv_if_ne (tgt := 16) hx hb dX8_misfits_9 (by decide) (fun _ => ?_) (fun c_ => absurd c_ (by decide))
    refine lv_iconst (v := 0) hx hb dX8_misfits_16 (by decide) ?_
    exact r_zret hC hr (by decide) hlk hw () rfl (if_pos c_4).symm (Nat.le_of_ble_eq_true rfl) (Nat.le_of_ble_eq_true rfl) dX8_misfits_17
  · rw [if_neg c_4] at h_1
    subst h_1
    refine lv_if_ne (tgt := 16) hx hb dX8_misfits_9 (by decide) (fun c_ => absurd (by decide) c_) (fun _ => ?_)
    refine lv_iconst (v := 1) hx hb dX8_misfits_12 (by decide) ?_
    refine lv_goto (tgt := 17) hx hb dX8_misfits_13 (by decide) ?_
    exact r_zret hC hr (by decide) hlk hw () rfl (if_neg c_4).symm (Nat.le_of_ble_eq_true rfl) (Nat.le_of_ble_eq_true rfl) dX8_misfits_17

set_option maxHeartbeats 4000000 in
set_option maxRecDepth 100000 in
theorem c_X8_misfitsN_10 (l : Launch) {D : va_G} {q : Nat → ClassId} (w : wT) (sz : Nat) : Met l yX8_misfits wsX8_misfits (rmz 1 21) (va_Pc [.null, .int 10] (rPre D q w sz)) (va_Qi (fun (r : Int32) (u : Unit) => r = 0) (fun (u : Unit) tt => rPo D (rA w sz) w tt) (rA w sz)) 0 0 (rA w sz) := by
  refine r_start (cc := cX8_misfits) (maxL := 2) (ret := (some .boolean)) (by decide) rfl (Nat.le_of_ble_eq_true rfl) ?_
  intro p e s m below meth c ls hC hr hlk hnm hsz hw hl
  have hx := hC.1
  have hb := hC.2.1
  have hl : lv_has ls 2 [(0, .null), (1, .int 10)] := hl
  refine lv_aload_nN hx hb dX8_misfits_0 rfl (lv_at hl 0 rfl) ?_
  refine lv_ifnullN (tgt := 16) hx hb dX8_misfits_1 (by decide) ?_
  refine lv_iconst (v := 0) hx hb dX8_misfits_16 (by decide) ?_
  exact r_zret hC hr (by decide) hlk hw () rfl rfl (Nat.le_of_ble_eq_true rfl) (Nat.le_of_ble_eq_true rfl) dX8_misfits_17

set_option maxHeartbeats 4000000 in
set_option maxRecDepth 100000 in
theorem c_X8_misfits_10 (l : Launch) {D : va_G} {q : Nat → ClassId} (w : wT) (sz : Nat) (i : Nat) {x1 x2 x3 x4 : Value} {kd pl tg : Int32} {wt : Int64} (hk : vp_in kd 16) (hl_i : w.2.1 i) (hc_i : w.2.2 i = .inr (6, [.int kd, .int pl, x1, x2, x3, .int tg, .long wt, x4])) : Met l yX8_misfits wsX8_misfits (rmz 1 21) (va_Pc [.ref (w.1 i), .int 10] (rPre D q w sz)) (va_Qi (fun (r : Int32) (u : Unit) => r = if pOf kd 10 then 0 else 1) (fun (u : Unit) tt => rPo D (rA w sz) w tt) (rA w sz)) 0 0 (rA w sz) := by
  refine r_start (cc := cX8_misfits) (maxL := 2) (ret := (some .boolean)) (by decide) rfl (Nat.le_of_ble_eq_true rfl) ?_
  intro p e s m below meth c ls hC hr hlk hnm hsz hw hl
  have hx := hC.1
  have hb := hC.2.1
  have hl : lv_has ls 2 [(0, .ref (w.1 i)), (1, .int 10)] := hl
  refine lv_aload_n hx hb dX8_misfits_0 rfl (lv_at hl 0 rfl) ?_
  refine lv_ifnull hx hb dX8_misfits_1 ?_
  refine lv_aload_n hx hb dX8_misfits_4 rfl (lv_at hl 0 rfl) ?_
  refine lv_iload_n hx hb dX8_misfits_5 rfl (lv_at hl 1 rfl) ?_
  refine r_ki hw (r_runV (rest := []) hC hw i (c_X6_isOf_10 l _ _ i hk hl_i hc_i) rk6 hl_i hc_i 1 gX8_misfits_X6_isOf rfl rfl rfl (by decide +kernel) ⟨Nat.le_of_ble_eq_true rfl, Nat.le_of_ble_eq_true rfl⟩ rfl hl.1 rfl (Nat.le_of_ble_eq_true rfl) dX8_misfits_6 ⟨Nat.le_of_ble_eq_true rfl, Nat.le_of_ble_eq_true rfl⟩) (fun r_2 u_3 H locs h_1 hw => ?_)
  by_cases c_4 : pOf kd 10
  · rw [if_pos c_4] at h_1
    subst h_1
    refine lv_if_ne (tgt := 16) hx hb dX8_misfits_9 (by decide) (fun _ => ?_) (fun c_ => absurd c_ (by decide))
    refine lv_iconst (v := 0) hx hb dX8_misfits_16 (by decide) ?_
    exact r_zret hC hr (by decide) hlk hw () rfl (if_pos c_4).symm (Nat.le_of_ble_eq_true rfl) (Nat.le_of_ble_eq_true rfl) dX8_misfits_17
  · rw [if_neg c_4] at h_1
    subst h_1
    refine lv_if_ne (tgt := 16) hx hb dX8_misfits_9 (by decide) (fun c_ => absurd (by decide) c_) (fun _ => ?_)
    refine lv_iconst (v := 1) hx hb dX8_misfits_12 (by decide) ?_
    refine lv_goto (tgt := 17) hx hb dX8_misfits_13 (by decide) ?_
    exact r_zret hC hr (by decide) hlk hw () rfl (if_neg c_4).symm (Nat.le_of_ble_eq_true rfl) (Nat.le_of_ble_eq_true rfl) dX8_misfits_17

set_option maxHeartbeats 4000000 in
set_option maxRecDepth 100000 in
theorem c_X8_misfitsN_11 (l : Launch) {D : va_G} {q : Nat → ClassId} (w : wT) (sz : Nat) : Met l yX8_misfits wsX8_misfits (rmz 1 21) (va_Pc [.null, .int 11] (rPre D q w sz)) (va_Qi (fun (r : Int32) (u : Unit) => r = 0) (fun (u : Unit) tt => rPo D (rA w sz) w tt) (rA w sz)) 0 0 (rA w sz) := by
  refine r_start (cc := cX8_misfits) (maxL := 2) (ret := (some .boolean)) (by decide) rfl (Nat.le_of_ble_eq_true rfl) ?_
  intro p e s m below meth c ls hC hr hlk hnm hsz hw hl
  have hx := hC.1
  have hb := hC.2.1
  have hl : lv_has ls 2 [(0, .null), (1, .int 11)] := hl
  refine lv_aload_nN hx hb dX8_misfits_0 rfl (lv_at hl 0 rfl) ?_
  refine lv_ifnullN (tgt := 16) hx hb dX8_misfits_1 (by decide) ?_
  refine lv_iconst (v := 0) hx hb dX8_misfits_16 (by decide) ?_
  exact r_zret hC hr (by decide) hlk hw () rfl rfl (Nat.le_of_ble_eq_true rfl) (Nat.le_of_ble_eq_true rfl) dX8_misfits_17

set_option maxHeartbeats 4000000 in
set_option maxRecDepth 100000 in
theorem c_X8_misfits_11 (l : Launch) {D : va_G} {q : Nat → ClassId} (w : wT) (sz : Nat) (i : Nat) {x1 x2 x3 x4 : Value} {kd pl tg : Int32} {wt : Int64} (hk : vp_in kd 16) (hl_i : w.2.1 i) (hc_i : w.2.2 i = .inr (6, [.int kd, .int pl, x1, x2, x3, .int tg, .long wt, x4])) : Met l yX8_misfits wsX8_misfits (rmz 1 21) (va_Pc [.ref (w.1 i), .int 11] (rPre D q w sz)) (va_Qi (fun (r : Int32) (u : Unit) => r = if pOf kd 11 then 0 else 1) (fun (u : Unit) tt => rPo D (rA w sz) w tt) (rA w sz)) 0 0 (rA w sz) := by
  refine r_start (cc := cX8_misfits) (maxL := 2) (ret := (some .boolean)) (by decide) rfl (Nat.le_of_ble_eq_true rfl) ?_
  intro p e s m below meth c ls hC hr hlk hnm hsz hw hl
  have hx := hC.1
  have hb := hC.2.1
  have hl : lv_has ls 2 [(0, .ref (w.1 i)), (1, .int 11)] := hl
  refine lv_aload_n hx hb dX8_misfits_0 rfl (lv_at hl 0 rfl) ?_
  refine lv_ifnull hx hb dX8_misfits_1 ?_
  refine lv_aload_n hx hb dX8_misfits_4 rfl (lv_at hl 0 rfl) ?_
  refine lv_iload_n hx hb dX8_misfits_5 rfl (lv_at hl 1 rfl) ?_
  refine r_ki hw (r_runV (rest := []) hC hw i (c_X6_isOf_11 l _ _ i hk hl_i hc_i) rk6 hl_i hc_i 1 gX8_misfits_X6_isOf rfl rfl rfl (by decide +kernel) ⟨Nat.le_of_ble_eq_true rfl, Nat.le_of_ble_eq_true rfl⟩ rfl hl.1 rfl (Nat.le_of_ble_eq_true rfl) dX8_misfits_6 ⟨Nat.le_of_ble_eq_true rfl, Nat.le_of_ble_eq_true rfl⟩) (fun r_2 u_3 H locs h_1 hw => ?_)
  by_cases c_4 : pOf kd 11
  · rw [if_pos c_4] at h_1
    subst h_1
    refine lv_if_ne (tgt := 16) hx hb dX8_misfits_9 (by decide) (fun _ => ?_) (fun c_ => absurd c_ (by decide))
    refine lv_iconst (v := 0) hx hb dX8_misfits_16 (by decide) ?_
    exact r_zret hC hr (by decide) hlk hw () rfl (if_pos c_4).symm (Nat.le_of_ble_eq_true rfl) (Nat.le_of_ble_eq_true rfl) dX8_misfits_17
  · rw [if_neg c_4] at h_1
    subst h_1
    refine lv_if_ne (tgt := 16) hx hb dX8_misfits_9 (by decide) (fun c_ => absurd (by decide) c_) (fun _ => ?_)
    refine lv_iconst (v := 1) hx hb dX8_misfits_12 (by decide) ?_
    refine lv_goto (tgt := 17) hx hb dX8_misfits_13 (by decide) ?_
    exact r_zret hC hr (by decide) hlk hw () rfl (if_neg c_4).symm (Nat.le_of_ble_eq_true rfl) (Nat.le_of_ble_eq_true rfl) dX8_misfits_17

set_option maxHeartbeats 4000000 in
set_option maxRecDepth 100000 in
theorem c_X8_misfitsN_12 (l : Launch) {D : va_G} {q : Nat → ClassId} (w : wT) (sz : Nat) : Met l yX8_misfits wsX8_misfits (rmz 1 21) (va_Pc [.null, .int 12] (rPre D q w sz)) (va_Qi (fun (r : Int32) (u : Unit) => r = 0) (fun (u : Unit) tt => rPo D (rA w sz) w tt) (rA w sz)) 0 0 (rA w sz) := by
  refine r_start (cc := cX8_misfits) (maxL := 2) (ret := (some .boolean)) (by decide) rfl (Nat.le_of_ble_eq_true rfl) ?_
  intro p e s m below meth c ls hC hr hlk hnm hsz hw hl
  have hx := hC.1
  have hb := hC.2.1
  have hl : lv_has ls 2 [(0, .null), (1, .int 12)] := hl
  refine lv_aload_nN hx hb dX8_misfits_0 rfl (lv_at hl 0 rfl) ?_
  refine lv_ifnullN (tgt := 16) hx hb dX8_misfits_1 (by decide) ?_
  refine lv_iconst (v := 0) hx hb dX8_misfits_16 (by decide) ?_
  exact r_zret hC hr (by decide) hlk hw () rfl rfl (Nat.le_of_ble_eq_true rfl) (Nat.le_of_ble_eq_true rfl) dX8_misfits_17

set_option maxHeartbeats 4000000 in
set_option maxRecDepth 100000 in
theorem c_X8_misfits_12 (l : Launch) {D : va_G} {q : Nat → ClassId} (w : wT) (sz : Nat) (i : Nat) {x1 x2 x3 x4 : Value} {kd pl tg : Int32} {wt : Int64} (hk : vp_in kd 16) (hl_i : w.2.1 i) (hc_i : w.2.2 i = .inr (6, [.int kd, .int pl, x1, x2, x3, .int tg, .long wt, x4])) : Met l yX8_misfits wsX8_misfits (rmz 1 21) (va_Pc [.ref (w.1 i), .int 12] (rPre D q w sz)) (va_Qi (fun (r : Int32) (u : Unit) => r = if pOf kd 12 then 0 else 1) (fun (u : Unit) tt => rPo D (rA w sz) w tt) (rA w sz)) 0 0 (rA w sz) := by
  refine r_start (cc := cX8_misfits) (maxL := 2) (ret := (some .boolean)) (by decide) rfl (Nat.le_of_ble_eq_true rfl) ?_
  intro p e s m below meth c ls hC hr hlk hnm hsz hw hl
  have hx := hC.1
  have hb := hC.2.1
  have hl : lv_has ls 2 [(0, .ref (w.1 i)), (1, .int 12)] := hl
  refine lv_aload_n hx hb dX8_misfits_0 rfl (lv_at hl 0 rfl) ?_
  refine lv_ifnull hx hb dX8_misfits_1 ?_
  refine lv_aload_n hx hb dX8_misfits_4 rfl (lv_at hl 0 rfl) ?_
  refine lv_iload_n hx hb dX8_misfits_5 rfl (lv_at hl 1 rfl) ?_
  refine r_ki hw (r_runV (rest := []) hC hw i (c_X6_isOf_12 l _ _ i hk hl_i hc_i) rk6 hl_i hc_i 1 gX8_misfits_X6_isOf rfl rfl rfl (by decide +kernel) ⟨Nat.le_of_ble_eq_true rfl, Nat.le_of_ble_eq_true rfl⟩ rfl hl.1 rfl (Nat.le_of_ble_eq_true rfl) dX8_misfits_6 ⟨Nat.le_of_ble_eq_true rfl, Nat.le_of_ble_eq_true rfl⟩) (fun r_2 u_3 H locs h_1 hw => ?_)
  by_cases c_4 : pOf kd 12
  · rw [if_pos c_4] at h_1
    subst h_1
    refine lv_if_ne (tgt := 16) hx hb dX8_misfits_9 (by decide) (fun _ => ?_) (fun c_ => absurd c_ (by decide))
    refine lv_iconst (v := 0) hx hb dX8_misfits_16 (by decide) ?_
    exact r_zret hC hr (by decide) hlk hw () rfl (if_pos c_4).symm (Nat.le_of_ble_eq_true rfl) (Nat.le_of_ble_eq_true rfl) dX8_misfits_17
  · rw [if_neg c_4] at h_1
    subst h_1
    refine lv_if_ne (tgt := 16) hx hb dX8_misfits_9 (by decide) (fun c_ => absurd (by decide) c_) (fun _ => ?_)
    refine lv_iconst (v := 1) hx hb dX8_misfits_12 (by decide) ?_
    refine lv_goto (tgt := 17) hx hb dX8_misfits_13 (by decide) ?_
    exact r_zret hC hr (by decide) hlk hw () rfl (if_neg c_4).symm (Nat.le_of_ble_eq_true rfl) (Nat.le_of_ble_eq_true rfl) dX8_misfits_17

set_option maxHeartbeats 4000000 in
set_option maxRecDepth 100000 in
theorem c_X8_misfitsN_15 (l : Launch) {D : va_G} {q : Nat → ClassId} (w : wT) (sz : Nat) : Met l yX8_misfits wsX8_misfits (rmz 1 21) (va_Pc [.null, .int 15] (rPre D q w sz)) (va_Qi (fun (r : Int32) (u : Unit) => r = 0) (fun (u : Unit) tt => rPo D (rA w sz) w tt) (rA w sz)) 0 0 (rA w sz) := by
  refine r_start (cc := cX8_misfits) (maxL := 2) (ret := (some .boolean)) (by decide) rfl (Nat.le_of_ble_eq_true rfl) ?_
  intro p e s m below meth c ls hC hr hlk hnm hsz hw hl
  have hx := hC.1
  have hb := hC.2.1
  have hl : lv_has ls 2 [(0, .null), (1, .int 15)] := hl
  refine lv_aload_nN hx hb dX8_misfits_0 rfl (lv_at hl 0 rfl) ?_
  refine lv_ifnullN (tgt := 16) hx hb dX8_misfits_1 (by decide) ?_
  refine lv_iconst (v := 0) hx hb dX8_misfits_16 (by decide) ?_
  exact r_zret hC hr (by decide) hlk hw () rfl rfl (Nat.le_of_ble_eq_true rfl) (Nat.le_of_ble_eq_true rfl) dX8_misfits_17

set_option maxHeartbeats 4000000 in
set_option maxRecDepth 100000 in
theorem c_X8_misfits_15 (l : Launch) {D : va_G} {q : Nat → ClassId} (w : wT) (sz : Nat) (i : Nat) {x1 x2 x3 x4 : Value} {kd pl tg : Int32} {wt : Int64} (hk : vp_in kd 16) (hl_i : w.2.1 i) (hc_i : w.2.2 i = .inr (6, [.int kd, .int pl, x1, x2, x3, .int tg, .long wt, x4])) : Met l yX8_misfits wsX8_misfits (rmz 1 21) (va_Pc [.ref (w.1 i), .int 15] (rPre D q w sz)) (va_Qi (fun (r : Int32) (u : Unit) => r = if pOf kd 15 then 0 else 1) (fun (u : Unit) tt => rPo D (rA w sz) w tt) (rA w sz)) 0 0 (rA w sz) := by
  refine r_start (cc := cX8_misfits) (maxL := 2) (ret := (some .boolean)) (by decide) rfl (Nat.le_of_ble_eq_true rfl) ?_
  intro p e s m below meth c ls hC hr hlk hnm hsz hw hl
  have hx := hC.1
  have hb := hC.2.1
  have hl : lv_has ls 2 [(0, .ref (w.1 i)), (1, .int 15)] := hl
  refine lv_aload_n hx hb dX8_misfits_0 rfl (lv_at hl 0 rfl) ?_
  refine lv_ifnull hx hb dX8_misfits_1 ?_
  refine lv_aload_n hx hb dX8_misfits_4 rfl (lv_at hl 0 rfl) ?_
  refine lv_iload_n hx hb dX8_misfits_5 rfl (lv_at hl 1 rfl) ?_
  refine r_ki hw (r_runV (rest := []) hC hw i (c_X6_isOf_15 l _ _ i hk hl_i hc_i) rk6 hl_i hc_i 1 gX8_misfits_X6_isOf rfl rfl rfl (by decide +kernel) ⟨Nat.le_of_ble_eq_true rfl, Nat.le_of_ble_eq_true rfl⟩ rfl hl.1 rfl (Nat.le_of_ble_eq_true rfl) dX8_misfits_6 ⟨Nat.le_of_ble_eq_true rfl, Nat.le_of_ble_eq_true rfl⟩) (fun r_2 u_3 H locs h_1 hw => ?_)
  by_cases c_4 : pOf kd 15
  · rw [if_pos c_4] at h_1
    subst h_1
    refine lv_if_ne (tgt := 16) hx hb dX8_misfits_9 (by decide) (fun _ => ?_) (fun c_ => absurd c_ (by decide))
    refine lv_iconst (v := 0) hx hb dX8_misfits_16 (by decide) ?_
    exact r_zret hC hr (by decide) hlk hw () rfl (if_pos c_4).symm (Nat.le_of_ble_eq_true rfl) (Nat.le_of_ble_eq_true rfl) dX8_misfits_17
  · rw [if_neg c_4] at h_1
    subst h_1
    refine lv_if_ne (tgt := 16) hx hb dX8_misfits_9 (by decide) (fun c_ => absurd (by decide) c_) (fun _ => ?_)
    refine lv_iconst (v := 1) hx hb dX8_misfits_12 (by decide) ?_
    refine lv_goto (tgt := 17) hx hb dX8_misfits_13 (by decide) ?_
    exact r_zret hC hr (by decide) hlk hw () rfl (if_neg c_4).symm (Nat.le_of_ble_eq_true rfl) (Nat.le_of_ble_eq_true rfl) dX8_misfits_17

set_option maxHeartbeats 4000000 in
set_option maxRecDepth 100000 in
theorem c_X8_misfitsN_16 (l : Launch) {D : va_G} {q : Nat → ClassId} (w : wT) (sz : Nat) : Met l yX8_misfits wsX8_misfits (rmz 1 21) (va_Pc [.null, .int 16] (rPre D q w sz)) (va_Qi (fun (r : Int32) (u : Unit) => r = 0) (fun (u : Unit) tt => rPo D (rA w sz) w tt) (rA w sz)) 0 0 (rA w sz) := by
  refine r_start (cc := cX8_misfits) (maxL := 2) (ret := (some .boolean)) (by decide) rfl (Nat.le_of_ble_eq_true rfl) ?_
  intro p e s m below meth c ls hC hr hlk hnm hsz hw hl
  have hx := hC.1
  have hb := hC.2.1
  have hl : lv_has ls 2 [(0, .null), (1, .int 16)] := hl
  refine lv_aload_nN hx hb dX8_misfits_0 rfl (lv_at hl 0 rfl) ?_
  refine lv_ifnullN (tgt := 16) hx hb dX8_misfits_1 (by decide) ?_
  refine lv_iconst (v := 0) hx hb dX8_misfits_16 (by decide) ?_
  exact r_zret hC hr (by decide) hlk hw () rfl rfl (Nat.le_of_ble_eq_true rfl) (Nat.le_of_ble_eq_true rfl) dX8_misfits_17

set_option maxHeartbeats 4000000 in
set_option maxRecDepth 100000 in
theorem c_X8_misfits_16 (l : Launch) {D : va_G} {q : Nat → ClassId} (w : wT) (sz : Nat) (i : Nat) {x1 x2 x3 x4 : Value} {kd pl tg : Int32} {wt : Int64} (hk : vp_in kd 16) (hl_i : w.2.1 i) (hc_i : w.2.2 i = .inr (6, [.int kd, .int pl, x1, x2, x3, .int tg, .long wt, x4])) : Met l yX8_misfits wsX8_misfits (rmz 1 21) (va_Pc [.ref (w.1 i), .int 16] (rPre D q w sz)) (va_Qi (fun (r : Int32) (u : Unit) => r = if pOf kd 16 then 0 else 1) (fun (u : Unit) tt => rPo D (rA w sz) w tt) (rA w sz)) 0 0 (rA w sz) := by
  refine r_start (cc := cX8_misfits) (maxL := 2) (ret := (some .boolean)) (by decide) rfl (Nat.le_of_ble_eq_true rfl) ?_
  intro p e s m below meth c ls hC hr hlk hnm hsz hw hl
  have hx := hC.1
  have hb := hC.2.1
  have hl : lv_has ls 2 [(0, .ref (w.1 i)), (1, .int 16)] := hl
  refine lv_aload_n hx hb dX8_misfits_0 rfl (lv_at hl 0 rfl) ?_
  refine lv_ifnull hx hb dX8_misfits_1 ?_
  refine lv_aload_n hx hb dX8_misfits_4 rfl (lv_at hl 0 rfl) ?_
  refine lv_iload_n hx hb dX8_misfits_5 rfl (lv_at hl 1 rfl) ?_
  refine r_ki hw (r_runV (rest := []) hC hw i (c_X6_isOf_16 l _ _ i hk hl_i hc_i) rk6 hl_i hc_i 1 gX8_misfits_X6_isOf rfl rfl rfl (by decide +kernel) ⟨Nat.le_of_ble_eq_true rfl, Nat.le_of_ble_eq_true rfl⟩ rfl hl.1 rfl (Nat.le_of_ble_eq_true rfl) dX8_misfits_6 ⟨Nat.le_of_ble_eq_true rfl, Nat.le_of_ble_eq_true rfl⟩) (fun r_2 u_3 H locs h_1 hw => ?_)
  by_cases c_4 : pOf kd 16
  · rw [if_pos c_4] at h_1
    subst h_1
    refine lv_if_ne (tgt := 16) hx hb dX8_misfits_9 (by decide) (fun _ => ?_) (fun c_ => absurd c_ (by decide))
    refine lv_iconst (v := 0) hx hb dX8_misfits_16 (by decide) ?_
    exact r_zret hC hr (by decide) hlk hw () rfl (if_pos c_4).symm (Nat.le_of_ble_eq_true rfl) (Nat.le_of_ble_eq_true rfl) dX8_misfits_17
  · rw [if_neg c_4] at h_1
    subst h_1
    refine lv_if_ne (tgt := 16) hx hb dX8_misfits_9 (by decide) (fun c_ => absurd (by decide) c_) (fun _ => ?_)
    refine lv_iconst (v := 1) hx hb dX8_misfits_12 (by decide) ?_
    refine lv_goto (tgt := 17) hx hb dX8_misfits_13 (by decide) ?_
    exact r_zret hC hr (by decide) hlk hw () rfl (if_neg c_4).symm (Nat.le_of_ble_eq_true rfl) (Nat.le_of_ble_eq_true rfl) dX8_misfits_17

set_option maxHeartbeats 4000000 in
set_option maxRecDepth 100000 in
theorem c_X8_misfitsN_0 (l : Launch) {D : va_G} {q : Nat → ClassId} (w : wT) (sz : Nat) : Met l yX8_misfits wsX8_misfits (rmz 1 21) (va_Pc [.null, .int 0] (rPre D q w sz)) (va_Qi (fun (r : Int32) (u : Unit) => r = 0) (fun (u : Unit) tt => rPo D (rA w sz) w tt) (rA w sz)) 0 0 (rA w sz) := by
  refine r_start (cc := cX8_misfits) (maxL := 2) (ret := (some .boolean)) (by decide) rfl (Nat.le_of_ble_eq_true rfl) ?_
  intro p e s m below meth c ls hC hr hlk hnm hsz hw hl
  have hx := hC.1
  have hb := hC.2.1
  have hl : lv_has ls 2 [(0, .null), (1, .int 0)] := hl
  refine lv_aload_nN hx hb dX8_misfits_0 rfl (lv_at hl 0 rfl) ?_
  refine lv_ifnullN (tgt := 16) hx hb dX8_misfits_1 (by decide) ?_
  refine lv_iconst (v := 0) hx hb dX8_misfits_16 (by decide) ?_
  exact r_zret hC hr (by decide) hlk hw () rfl rfl (Nat.le_of_ble_eq_true rfl) (Nat.le_of_ble_eq_true rfl) dX8_misfits_17

set_option maxHeartbeats 4000000 in
set_option maxRecDepth 100000 in
theorem c_X8_misfits_0 (l : Launch) {D : va_G} {q : Nat → ClassId} (w : wT) (sz : Nat) (i : Nat) {x1 x2 x3 x4 : Value} {kd pl tg : Int32} {wt : Int64} (hk : vp_in kd 16) (hl_i : w.2.1 i) (hc_i : w.2.2 i = .inr (6, [.int kd, .int pl, x1, x2, x3, .int tg, .long wt, x4])) : Met l yX8_misfits wsX8_misfits (rmz 1 21) (va_Pc [.ref (w.1 i), .int 0] (rPre D q w sz)) (va_Qi (fun (r : Int32) (u : Unit) => r = if pOf kd 0 then 0 else 1) (fun (u : Unit) tt => rPo D (rA w sz) w tt) (rA w sz)) 0 0 (rA w sz) := by
  refine r_start (cc := cX8_misfits) (maxL := 2) (ret := (some .boolean)) (by decide) rfl (Nat.le_of_ble_eq_true rfl) ?_
  intro p e s m below meth c ls hC hr hlk hnm hsz hw hl
  have hx := hC.1
  have hb := hC.2.1
  have hl : lv_has ls 2 [(0, .ref (w.1 i)), (1, .int 0)] := hl
  refine lv_aload_n hx hb dX8_misfits_0 rfl (lv_at hl 0 rfl) ?_
  refine lv_ifnull hx hb dX8_misfits_1 ?_
  refine lv_aload_n hx hb dX8_misfits_4 rfl (lv_at hl 0 rfl) ?_
  refine lv_iload_n hx hb dX8_misfits_5 rfl (lv_at hl 1 rfl) ?_
  refine r_ki hw (r_runV (rest := []) hC hw i (c_X6_isOf_0 l _ _ i hk hl_i hc_i) rk6 hl_i hc_i 1 gX8_misfits_X6_isOf rfl rfl rfl (by decide +kernel) ⟨Nat.le_of_ble_eq_true rfl, Nat.le_of_ble_eq_true rfl⟩ rfl hl.1 rfl (Nat.le_of_ble_eq_true rfl) dX8_misfits_6 ⟨Nat.le_of_ble_eq_true rfl, Nat.le_of_ble_eq_true rfl⟩) (fun r_2 u_3 H locs h_1 hw => ?_)
  by_cases c_4 : pOf kd 0
  · rw [if_pos c_4] at h_1
    subst h_1
    refine lv_if_ne (tgt := 16) hx hb dX8_misfits_9 (by decide) (fun _ => ?_) (fun c_ => absurd c_ (by decide))
    refine lv_iconst (v := 0) hx hb dX8_misfits_16 (by decide) ?_
    exact r_zret hC hr (by decide) hlk hw () rfl (if_pos c_4).symm (Nat.le_of_ble_eq_true rfl) (Nat.le_of_ble_eq_true rfl) dX8_misfits_17
  · rw [if_neg c_4] at h_1
    subst h_1
    refine lv_if_ne (tgt := 16) hx hb dX8_misfits_9 (by decide) (fun c_ => absurd (by decide) c_) (fun _ => ?_)
    refine lv_iconst (v := 1) hx hb dX8_misfits_12 (by decide) ?_
    refine lv_goto (tgt := 17) hx hb dX8_misfits_13 (by decide) ?_
    exact r_zret hC hr (by decide) hlk hw () rfl (if_neg c_4).symm (Nat.le_of_ble_eq_true rfl) (Nat.le_of_ble_eq_true rfl) dX8_misfits_17

set_option maxHeartbeats 4000000 in
set_option maxRecDepth 100000 in
theorem c_X8_misfitsN_1 (l : Launch) {D : va_G} {q : Nat → ClassId} (w : wT) (sz : Nat) : Met l yX8_misfits wsX8_misfits (rmz 1 21) (va_Pc [.null, .int 1] (rPre D q w sz)) (va_Qi (fun (r : Int32) (u : Unit) => r = 0) (fun (u : Unit) tt => rPo D (rA w sz) w tt) (rA w sz)) 0 0 (rA w sz) := by
  refine r_start (cc := cX8_misfits) (maxL := 2) (ret := (some .boolean)) (by decide) rfl (Nat.le_of_ble_eq_true rfl) ?_
  intro p e s m below meth c ls hC hr hlk hnm hsz hw hl
  have hx := hC.1
  have hb := hC.2.1
  have hl : lv_has ls 2 [(0, .null), (1, .int 1)] := hl
  refine lv_aload_nN hx hb dX8_misfits_0 rfl (lv_at hl 0 rfl) ?_
  refine lv_ifnullN (tgt := 16) hx hb dX8_misfits_1 (by decide) ?_
  refine lv_iconst (v := 0) hx hb dX8_misfits_16 (by decide) ?_
  exact r_zret hC hr (by decide) hlk hw () rfl rfl (Nat.le_of_ble_eq_true rfl) (Nat.le_of_ble_eq_true rfl) dX8_misfits_17

set_option maxHeartbeats 4000000 in
set_option maxRecDepth 100000 in
theorem c_X8_misfits_1 (l : Launch) {D : va_G} {q : Nat → ClassId} (w : wT) (sz : Nat) (i : Nat) {x1 x2 x3 x4 : Value} {kd pl tg : Int32} {wt : Int64} (hk : vp_in kd 16) (hl_i : w.2.1 i) (hc_i : w.2.2 i = .inr (6, [.int kd, .int pl, x1, x2, x3, .int tg, .long wt, x4])) : Met l yX8_misfits wsX8_misfits (rmz 1 21) (va_Pc [.ref (w.1 i), .int 1] (rPre D q w sz)) (va_Qi (fun (r : Int32) (u : Unit) => r = if pOf kd 1 then 0 else 1) (fun (u : Unit) tt => rPo D (rA w sz) w tt) (rA w sz)) 0 0 (rA w sz) := by
  refine r_start (cc := cX8_misfits) (maxL := 2) (ret := (some .boolean)) (by decide) rfl (Nat.le_of_ble_eq_true rfl) ?_
  intro p e s m below meth c ls hC hr hlk hnm hsz hw hl
  have hx := hC.1
  have hb := hC.2.1
  have hl : lv_has ls 2 [(0, .ref (w.1 i)), (1, .int 1)] := hl
  refine lv_aload_n hx hb dX8_misfits_0 rfl (lv_at hl 0 rfl) ?_
  refine lv_ifnull hx hb dX8_misfits_1 ?_
  refine lv_aload_n hx hb dX8_misfits_4 rfl (lv_at hl 0 rfl) ?_
  refine lv_iload_n hx hb dX8_misfits_5 rfl (lv_at hl 1 rfl) ?_
  refine r_ki hw (r_runV (rest := []) hC hw i (c_X6_isOf_1 l _ _ i hk hl_i hc_i) rk6 hl_i hc_i 1 gX8_misfits_X6_isOf rfl rfl rfl (by decide +kernel) ⟨Nat.le_of_ble_eq_true rfl, Nat.le_of_ble_eq_true rfl⟩ rfl hl.1 rfl (Nat.le_of_ble_eq_true rfl) dX8_misfits_6 ⟨Nat.le_of_ble_eq_true rfl, Nat.le_of_ble_eq_true rfl⟩) (fun r_2 u_3 H locs h_1 hw => ?_)
  by_cases c_4 : pOf kd 1
  · rw [if_pos c_4] at h_1
    subst h_1
    refine lv_if_ne (tgt := 16) hx hb dX8_misfits_9 (by decide) (fun _ => ?_) (fun c_ => absurd c_ (by decide))
    refine lv_iconst (v := 0) hx hb dX8_misfits_16 (by decide) ?_
    exact r_zret hC hr (by decide) hlk hw () rfl (if_pos c_4).symm (Nat.le_of_ble_eq_true rfl) (Nat.le_of_ble_eq_true rfl) dX8_misfits_17
  · rw [if_neg c_4] at h_1
    subst h_1
    refine lv_if_ne (tgt := 16) hx hb dX8_misfits_9 (by decide) (fun c_ => absurd (by decide) c_) (fun _ => ?_)
    refine lv_iconst (v := 1) hx hb dX8_misfits_12 (by decide) ?_
    refine lv_goto (tgt := 17) hx hb dX8_misfits_13 (by decide) ?_
    exact r_zret hC hr (by decide) hlk hw () rfl (if_neg c_4).symm (Nat.le_of_ble_eq_true rfl) (Nat.le_of_ble_eq_true rfl) dX8_misfits_17

set_option maxHeartbeats 4000000 in
set_option maxRecDepth 100000 in
theorem c_X8_misfitsN_2 (l : Launch) {D : va_G} {q : Nat → ClassId} (w : wT) (sz : Nat) : Met l yX8_misfits wsX8_misfits (rmz 1 21) (va_Pc [.null, .int 2] (rPre D q w sz)) (va_Qi (fun (r : Int32) (u : Unit) => r = 0) (fun (u : Unit) tt => rPo D (rA w sz) w tt) (rA w sz)) 0 0 (rA w sz) := by
  refine r_start (cc := cX8_misfits) (maxL := 2) (ret := (some .boolean)) (by decide) rfl (Nat.le_of_ble_eq_true rfl) ?_
  intro p e s m below meth c ls hC hr hlk hnm hsz hw hl
  have hx := hC.1
  have hb := hC.2.1
  have hl : lv_has ls 2 [(0, .null), (1, .int 2)] := hl
  refine lv_aload_nN hx hb dX8_misfits_0 rfl (lv_at hl 0 rfl) ?_
  refine lv_ifnullN (tgt := 16) hx hb dX8_misfits_1 (by decide) ?_
  refine lv_iconst (v := 0) hx hb dX8_misfits_16 (by decide) ?_
  exact r_zret hC hr (by decide) hlk hw () rfl rfl (Nat.le_of_ble_eq_true rfl) (Nat.le_of_ble_eq_true rfl) dX8_misfits_17

set_option maxHeartbeats 4000000 in
set_option maxRecDepth 100000 in
theorem c_X8_misfits_2 (l : Launch) {D : va_G} {q : Nat → ClassId} (w : wT) (sz : Nat) (i : Nat) {x1 x2 x3 x4 : Value} {kd pl tg : Int32} {wt : Int64} (hk : vp_in kd 16) (hl_i : w.2.1 i) (hc_i : w.2.2 i = .inr (6, [.int kd, .int pl, x1, x2, x3, .int tg, .long wt, x4])) : Met l yX8_misfits wsX8_misfits (rmz 1 21) (va_Pc [.ref (w.1 i), .int 2] (rPre D q w sz)) (va_Qi (fun (r : Int32) (u : Unit) => r = if pOf kd 2 then 0 else 1) (fun (u : Unit) tt => rPo D (rA w sz) w tt) (rA w sz)) 0 0 (rA w sz) := by
  refine r_start (cc := cX8_misfits) (maxL := 2) (ret := (some .boolean)) (by decide) rfl (Nat.le_of_ble_eq_true rfl) ?_
  intro p e s m below meth c ls hC hr hlk hnm hsz hw hl
  have hx := hC.1
  have hb := hC.2.1
  have hl : lv_has ls 2 [(0, .ref (w.1 i)), (1, .int 2)] := hl
  refine lv_aload_n hx hb dX8_misfits_0 rfl (lv_at hl 0 rfl) ?_
  refine lv_ifnull hx hb dX8_misfits_1 ?_
  refine lv_aload_n hx hb dX8_misfits_4 rfl (lv_at hl 0 rfl) ?_
  refine lv_iload_n hx hb dX8_misfits_5 rfl (lv_at hl 1 rfl) ?_
  refine r_ki hw (r_runV (rest := []) hC hw i (c_X6_isOf_2 l _ _ i hk hl_i hc_i) rk6 hl_i hc_i 1 gX8_misfits_X6_isOf rfl rfl rfl (by decide +kernel) ⟨Nat.le_of_ble_eq_true rfl, Nat.le_of_ble_eq_true rfl⟩ rfl hl.1 rfl (Nat.le_of_ble_eq_true rfl) dX8_misfits_6 ⟨Nat.le_of_ble_eq_true rfl, Nat.le_of_ble_eq_true rfl⟩) (fun r_2 u_3 H locs h_1 hw => ?_)
  by_cases c_4 : pOf kd 2
  · rw [if_pos c_4] at h_1
    subst h_1
    refine lv_if_ne (tgt := 16) hx hb dX8_misfits_9 (by decide) (fun _ => ?_) (fun c_ => absurd c_ (by decide))
    refine lv_iconst (v := 0) hx hb dX8_misfits_16 (by decide) ?_
    exact r_zret hC hr (by decide) hlk hw () rfl (if_pos c_4).symm (Nat.le_of_ble_eq_true rfl) (Nat.le_of_ble_eq_true rfl) dX8_misfits_17
  · rw [if_neg c_4] at h_1
    subst h_1
    refine lv_if_ne (tgt := 16) hx hb dX8_misfits_9 (by decide) (fun c_ => absurd (by decide) c_) (fun _ => ?_)
    refine lv_iconst (v := 1) hx hb dX8_misfits_12 (by decide) ?_
    refine lv_goto (tgt := 17) hx hb dX8_misfits_13 (by decide) ?_
    exact r_zret hC hr (by decide) hlk hw () rfl (if_neg c_4).symm (Nat.le_of_ble_eq_true rfl) (Nat.le_of_ble_eq_true rfl) dX8_misfits_17

set_option maxHeartbeats 4000000 in
set_option maxRecDepth 100000 in
theorem c_X8_misfitsN_3 (l : Launch) {D : va_G} {q : Nat → ClassId} (w : wT) (sz : Nat) : Met l yX8_misfits wsX8_misfits (rmz 1 21) (va_Pc [.null, .int 3] (rPre D q w sz)) (va_Qi (fun (r : Int32) (u : Unit) => r = 0) (fun (u : Unit) tt => rPo D (rA w sz) w tt) (rA w sz)) 0 0 (rA w sz) := by
  refine r_start (cc := cX8_misfits) (maxL := 2) (ret := (some .boolean)) (by decide) rfl (Nat.le_of_ble_eq_true rfl) ?_
  intro p e s m below meth c ls hC hr hlk hnm hsz hw hl
  have hx := hC.1
  have hb := hC.2.1
  have hl : lv_has ls 2 [(0, .null), (1, .int 3)] := hl
  refine lv_aload_nN hx hb dX8_misfits_0 rfl (lv_at hl 0 rfl) ?_
  refine lv_ifnullN (tgt := 16) hx hb dX8_misfits_1 (by decide) ?_
  refine lv_iconst (v := 0) hx hb dX8_misfits_16 (by decide) ?_
  exact r_zret hC hr (by decide) hlk hw () rfl rfl (Nat.le_of_ble_eq_true rfl) (Nat.le_of_ble_eq_true rfl) dX8_misfits_17

set_option maxHeartbeats 4000000 in
set_option maxRecDepth 100000 in
theorem c_X8_misfits_3 (l : Launch) {D : va_G} {q : Nat → ClassId} (w : wT) (sz : Nat) (i : Nat) {x1 x2 x3 x4 : Value} {kd pl tg : Int32} {wt : Int64} (hk : vp_in kd 16) (hl_i : w.2.1 i) (hc_i : w.2.2 i = .inr (6, [.int kd, .int pl, x1, x2, x3, .int tg, .long wt, x4])) : Met l yX8_misfits wsX8_misfits (rmz 1 21) (va_Pc [.ref (w.1 i), .int 3] (rPre D q w sz)) (va_Qi (fun (r : Int32) (u : Unit) => r = if pOf kd 3 then 0 else 1) (fun (u : Unit) tt => rPo D (rA w sz) w tt) (rA w sz)) 0 0 (rA w sz) := by
  refine r_start (cc := cX8_misfits) (maxL := 2) (ret := (some .boolean)) (by decide) rfl (Nat.le_of_ble_eq_true rfl) ?_
  intro p e s m below meth c ls hC hr hlk hnm hsz hw hl
  have hx := hC.1
  have hb := hC.2.1
  have hl : lv_has ls 2 [(0, .ref (w.1 i)), (1, .int 3)] := hl
  refine lv_aload_n hx hb dX8_misfits_0 rfl (lv_at hl 0 rfl) ?_
  refine lv_ifnull hx hb dX8_misfits_1 ?_
  refine lv_aload_n hx hb dX8_misfits_4 rfl (lv_at hl 0 rfl) ?_
  refine lv_iload_n hx hb dX8_misfits_5 rfl (lv_at hl 1 rfl) ?_
  refine r_ki hw (r_runV (rest := []) hC hw i (c_X6_isOf_3 l _ _ i hk hl_i hc_i) rk6 hl_i hc_i 1 gX8_misfits_X6_isOf rfl rfl rfl (by decide +kernel) ⟨Nat.le_of_ble_eq_true rfl, Nat.le_of_ble_eq_true rfl⟩ rfl hl.1 rfl (Nat.le_of_ble_eq_true rfl) dX8_misfits_6 ⟨Nat.le_of_ble_eq_true rfl, Nat.le_of_ble_eq_true rfl⟩) (fun r_2 u_3 H locs h_1 hw => ?_)
  by_cases c_4 : pOf kd 3
  · rw [if_pos c_4] at h_1
    subst h_1
    refine lv_if_ne (tgt := 16) hx hb dX8_misfits_9 (by decide) (fun _ => ?_) (fun c_ => absurd c_ (by decide))
    refine lv_iconst (v := 0) hx hb dX8_misfits_16 (by decide) ?_
    exact r_zret hC hr (by decide) hlk hw () rfl (if_pos c_4).symm (Nat.le_of_ble_eq_true rfl) (Nat.le_of_ble_eq_true rfl) dX8_misfits_17
  · rw [if_neg c_4] at h_1
    subst h_1
    refine lv_if_ne (tgt := 16) hx hb dX8_misfits_9 (by decide) (fun c_ => absurd (by decide) c_) (fun _ => ?_)
    refine lv_iconst (v := 1) hx hb dX8_misfits_12 (by decide) ?_
    refine lv_goto (tgt := 17) hx hb dX8_misfits_13 (by decide) ?_
    exact r_zret hC hr (by decide) hlk hw () rfl (if_neg c_4).symm (Nat.le_of_ble_eq_true rfl) (Nat.le_of_ble_eq_true rfl) dX8_misfits_17

set_option maxHeartbeats 4000000 in
set_option maxRecDepth 100000 in
theorem c_X8_misfitsN_5 (l : Launch) {D : va_G} {q : Nat → ClassId} (w : wT) (sz : Nat) : Met l yX8_misfits wsX8_misfits (rmz 1 21) (va_Pc [.null, .int 5] (rPre D q w sz)) (va_Qi (fun (r : Int32) (u : Unit) => r = 0) (fun (u : Unit) tt => rPo D (rA w sz) w tt) (rA w sz)) 0 0 (rA w sz) := by
  refine r_start (cc := cX8_misfits) (maxL := 2) (ret := (some .boolean)) (by decide) rfl (Nat.le_of_ble_eq_true rfl) ?_
  intro p e s m below meth c ls hC hr hlk hnm hsz hw hl
  have hx := hC.1
  have hb := hC.2.1
  have hl : lv_has ls 2 [(0, .null), (1, .int 5)] := hl
  refine lv_aload_nN hx hb dX8_misfits_0 rfl (lv_at hl 0 rfl) ?_
  refine lv_ifnullN (tgt := 16) hx hb dX8_misfits_1 (by decide) ?_
  refine lv_iconst (v := 0) hx hb dX8_misfits_16 (by decide) ?_
  exact r_zret hC hr (by decide) hlk hw () rfl rfl (Nat.le_of_ble_eq_true rfl) (Nat.le_of_ble_eq_true rfl) dX8_misfits_17

set_option maxHeartbeats 4000000 in
set_option maxRecDepth 100000 in
theorem c_X8_misfits_5 (l : Launch) {D : va_G} {q : Nat → ClassId} (w : wT) (sz : Nat) (i : Nat) {x1 x2 x3 x4 : Value} {kd pl tg : Int32} {wt : Int64} (hk : vp_in kd 16) (hl_i : w.2.1 i) (hc_i : w.2.2 i = .inr (6, [.int kd, .int pl, x1, x2, x3, .int tg, .long wt, x4])) : Met l yX8_misfits wsX8_misfits (rmz 1 21) (va_Pc [.ref (w.1 i), .int 5] (rPre D q w sz)) (va_Qi (fun (r : Int32) (u : Unit) => r = if pOf kd 5 then 0 else 1) (fun (u : Unit) tt => rPo D (rA w sz) w tt) (rA w sz)) 0 0 (rA w sz) := by
  refine r_start (cc := cX8_misfits) (maxL := 2) (ret := (some .boolean)) (by decide) rfl (Nat.le_of_ble_eq_true rfl) ?_
  intro p e s m below meth c ls hC hr hlk hnm hsz hw hl
  have hx := hC.1
  have hb := hC.2.1
  have hl : lv_has ls 2 [(0, .ref (w.1 i)), (1, .int 5)] := hl
  refine lv_aload_n hx hb dX8_misfits_0 rfl (lv_at hl 0 rfl) ?_
  refine lv_ifnull hx hb dX8_misfits_1 ?_
  refine lv_aload_n hx hb dX8_misfits_4 rfl (lv_at hl 0 rfl) ?_
  refine lv_iload_n hx hb dX8_misfits_5 rfl (lv_at hl 1 rfl) ?_
  refine r_ki hw (r_runV (rest := []) hC hw i (c_X6_isOf_5 l _ _ i hk hl_i hc_i) rk6 hl_i hc_i 1 gX8_misfits_X6_isOf rfl rfl rfl (by decide +kernel) ⟨Nat.le_of_ble_eq_true rfl, Nat.le_of_ble_eq_true rfl⟩ rfl hl.1 rfl (Nat.le_of_ble_eq_true rfl) dX8_misfits_6 ⟨Nat.le_of_ble_eq_true rfl, Nat.le_of_ble_eq_true rfl⟩) (fun r_2 u_3 H locs h_1 hw => ?_)
  by_cases c_4 : pOf kd 5
  · rw [if_pos c_4] at h_1
    subst h_1
    refine lv_if_ne (tgt := 16) hx hb dX8_misfits_9 (by decide) (fun _ => ?_) (fun c_ => absurd c_ (by decide))
    refine lv_iconst (v := 0) hx hb dX8_misfits_16 (by decide) ?_
    exact r_zret hC hr (by decide) hlk hw () rfl (if_pos c_4).symm (Nat.le_of_ble_eq_true rfl) (Nat.le_of_ble_eq_true rfl) dX8_misfits_17
  · rw [if_neg c_4] at h_1
    subst h_1
    refine lv_if_ne (tgt := 16) hx hb dX8_misfits_9 (by decide) (fun c_ => absurd (by decide) c_) (fun _ => ?_)
    refine lv_iconst (v := 1) hx hb dX8_misfits_12 (by decide) ?_
    refine lv_goto (tgt := 17) hx hb dX8_misfits_13 (by decide) ?_
    exact r_zret hC hr (by decide) hlk hw () rfl (if_neg c_4).symm (Nat.le_of_ble_eq_true rfl) (Nat.le_of_ble_eq_true rfl) dX8_misfits_17

set_option maxHeartbeats 4000000 in
set_option maxRecDepth 100000 in
theorem c_X8_misfitsN_6 (l : Launch) {D : va_G} {q : Nat → ClassId} (w : wT) (sz : Nat) : Met l yX8_misfits wsX8_misfits (rmz 1 21) (va_Pc [.null, .int 6] (rPre D q w sz)) (va_Qi (fun (r : Int32) (u : Unit) => r = 0) (fun (u : Unit) tt => rPo D (rA w sz) w tt) (rA w sz)) 0 0 (rA w sz) := by
  refine r_start (cc := cX8_misfits) (maxL := 2) (ret := (some .boolean)) (by decide) rfl (Nat.le_of_ble_eq_true rfl) ?_
  intro p e s m below meth c ls hC hr hlk hnm hsz hw hl
  have hx := hC.1
  have hb := hC.2.1
  have hl : lv_has ls 2 [(0, .null), (1, .int 6)] := hl
  refine lv_aload_nN hx hb dX8_misfits_0 rfl (lv_at hl 0 rfl) ?_
  refine lv_ifnullN (tgt := 16) hx hb dX8_misfits_1 (by decide) ?_
  refine lv_iconst (v := 0) hx hb dX8_misfits_16 (by decide) ?_
  exact r_zret hC hr (by decide) hlk hw () rfl rfl (Nat.le_of_ble_eq_true rfl) (Nat.le_of_ble_eq_true rfl) dX8_misfits_17

set_option maxHeartbeats 4000000 in
set_option maxRecDepth 100000 in
theorem c_X8_misfits_6 (l : Launch) {D : va_G} {q : Nat → ClassId} (w : wT) (sz : Nat) (i : Nat) {x1 x2 x3 x4 : Value} {kd pl tg : Int32} {wt : Int64} (hk : vp_in kd 16) (hl_i : w.2.1 i) (hc_i : w.2.2 i = .inr (6, [.int kd, .int pl, x1, x2, x3, .int tg, .long wt, x4])) : Met l yX8_misfits wsX8_misfits (rmz 1 21) (va_Pc [.ref (w.1 i), .int 6] (rPre D q w sz)) (va_Qi (fun (r : Int32) (u : Unit) => r = if pOf kd 6 then 0 else 1) (fun (u : Unit) tt => rPo D (rA w sz) w tt) (rA w sz)) 0 0 (rA w sz) := by
  refine r_start (cc := cX8_misfits) (maxL := 2) (ret := (some .boolean)) (by decide) rfl (Nat.le_of_ble_eq_true rfl) ?_
  intro p e s m below meth c ls hC hr hlk hnm hsz hw hl
  have hx := hC.1
  have hb := hC.2.1
  have hl : lv_has ls 2 [(0, .ref (w.1 i)), (1, .int 6)] := hl
  refine lv_aload_n hx hb dX8_misfits_0 rfl (lv_at hl 0 rfl) ?_
  refine lv_ifnull hx hb dX8_misfits_1 ?_
  refine lv_aload_n hx hb dX8_misfits_4 rfl (lv_at hl 0 rfl) ?_
  refine lv_iload_n hx hb dX8_misfits_5 rfl (lv_at hl 1 rfl) ?_
  refine r_ki hw (r_runV (rest := []) hC hw i (c_X6_isOf_6 l _ _ i hk hl_i hc_i) rk6 hl_i hc_i 1 gX8_misfits_X6_isOf rfl rfl rfl (by decide +kernel) ⟨Nat.le_of_ble_eq_true rfl, Nat.le_of_ble_eq_true rfl⟩ rfl hl.1 rfl (Nat.le_of_ble_eq_true rfl) dX8_misfits_6 ⟨Nat.le_of_ble_eq_true rfl, Nat.le_of_ble_eq_true rfl⟩) (fun r_2 u_3 H locs h_1 hw => ?_)
  by_cases c_4 : pOf kd 6
  · rw [if_pos c_4] at h_1
    subst h_1
    refine lv_if_ne (tgt := 16) hx hb dX8_misfits_9 (by decide) (fun _ => ?_) (fun c_ => absurd c_ (by decide))
    refine lv_iconst (v := 0) hx hb dX8_misfits_16 (by decide) ?_
    exact r_zret hC hr (by decide) hlk hw () rfl (if_pos c_4).symm (Nat.le_of_ble_eq_true rfl) (Nat.le_of_ble_eq_true rfl) dX8_misfits_17
  · rw [if_neg c_4] at h_1
    subst h_1
    refine lv_if_ne (tgt := 16) hx hb dX8_misfits_9 (by decide) (fun c_ => absurd (by decide) c_) (fun _ => ?_)
    refine lv_iconst (v := 1) hx hb dX8_misfits_12 (by decide) ?_
    refine lv_goto (tgt := 17) hx hb dX8_misfits_13 (by decide) ?_
    exact r_zret hC hr (by decide) hlk hw () rfl (if_neg c_4).symm (Nat.le_of_ble_eq_true rfl) (Nat.le_of_ble_eq_true rfl) dX8_misfits_17

set_option maxHeartbeats 4000000 in
set_option maxRecDepth 100000 in
theorem c_X8_misfitsN_7 (l : Launch) {D : va_G} {q : Nat → ClassId} (w : wT) (sz : Nat) : Met l yX8_misfits wsX8_misfits (rmz 1 21) (va_Pc [.null, .int 7] (rPre D q w sz)) (va_Qi (fun (r : Int32) (u : Unit) => r = 0) (fun (u : Unit) tt => rPo D (rA w sz) w tt) (rA w sz)) 0 0 (rA w sz) := by
  refine r_start (cc := cX8_misfits) (maxL := 2) (ret := (some .boolean)) (by decide) rfl (Nat.le_of_ble_eq_true rfl) ?_
  intro p e s m below meth c ls hC hr hlk hnm hsz hw hl
  have hx := hC.1
  have hb := hC.2.1
  have hl : lv_has ls 2 [(0, .null), (1, .int 7)] := hl
  refine lv_aload_nN hx hb dX8_misfits_0 rfl (lv_at hl 0 rfl) ?_
  refine lv_ifnullN (tgt := 16) hx hb dX8_misfits_1 (by decide) ?_
  refine lv_iconst (v := 0) hx hb dX8_misfits_16 (by decide) ?_
  exact r_zret hC hr (by decide) hlk hw () rfl rfl (Nat.le_of_ble_eq_true rfl) (Nat.le_of_ble_eq_true rfl) dX8_misfits_17

set_option maxHeartbeats 4000000 in
set_option maxRecDepth 100000 in
theorem c_X8_misfits_7 (l : Launch) {D : va_G} {q : Nat → ClassId} (w : wT) (sz : Nat) (i : Nat) {x1 x2 x3 x4 : Value} {kd pl tg : Int32} {wt : Int64} (hk : vp_in kd 16) (hl_i : w.2.1 i) (hc_i : w.2.2 i = .inr (6, [.int kd, .int pl, x1, x2, x3, .int tg, .long wt, x4])) : Met l yX8_misfits wsX8_misfits (rmz 1 21) (va_Pc [.ref (w.1 i), .int 7] (rPre D q w sz)) (va_Qi (fun (r : Int32) (u : Unit) => r = if pOf kd 7 then 0 else 1) (fun (u : Unit) tt => rPo D (rA w sz) w tt) (rA w sz)) 0 0 (rA w sz) := by
  refine r_start (cc := cX8_misfits) (maxL := 2) (ret := (some .boolean)) (by decide) rfl (Nat.le_of_ble_eq_true rfl) ?_
  intro p e s m below meth c ls hC hr hlk hnm hsz hw hl
  have hx := hC.1
  have hb := hC.2.1
  have hl : lv_has ls 2 [(0, .ref (w.1 i)), (1, .int 7)] := hl
  refine lv_aload_n hx hb dX8_misfits_0 rfl (lv_at hl 0 rfl) ?_
  refine lv_ifnull hx hb dX8_misfits_1 ?_
  refine lv_aload_n hx hb dX8_misfits_4 rfl (lv_at hl 0 rfl) ?_
  refine lv_iload_n hx hb dX8_misfits_5 rfl (lv_at hl 1 rfl) ?_
  refine r_ki hw (r_runV (rest := []) hC hw i (c_X6_isOf_7 l _ _ i hk hl_i hc_i) rk6 hl_i hc_i 1 gX8_misfits_X6_isOf rfl rfl rfl (by decide +kernel) ⟨Nat.le_of_ble_eq_true rfl, Nat.le_of_ble_eq_true rfl⟩ rfl hl.1 rfl (Nat.le_of_ble_eq_true rfl) dX8_misfits_6 ⟨Nat.le_of_ble_eq_true rfl, Nat.le_of_ble_eq_true rfl⟩) (fun r_2 u_3 H locs h_1 hw => ?_)
  by_cases c_4 : pOf kd 7
  · rw [if_pos c_4] at h_1
    subst h_1
    refine lv_if_ne (tgt := 16) hx hb dX8_misfits_9 (by decide) (fun _ => ?_) (fun c_ => absurd c_ (by decide))
    refine lv_iconst (v := 0) hx hb dX8_misfits_16 (by decide) ?_
    exact r_zret hC hr (by decide) hlk hw () rfl (if_pos c_4).symm (Nat.le_of_ble_eq_true rfl) (Nat.le_of_ble_eq_true rfl) dX8_misfits_17
  · rw [if_neg c_4] at h_1
    subst h_1
    refine lv_if_ne (tgt := 16) hx hb dX8_misfits_9 (by decide) (fun c_ => absurd (by decide) c_) (fun _ => ?_)
    refine lv_iconst (v := 1) hx hb dX8_misfits_12 (by decide) ?_
    refine lv_goto (tgt := 17) hx hb dX8_misfits_13 (by decide) ?_
    exact r_zret hC hr (by decide) hlk hw () rfl (if_neg c_4).symm (Nat.le_of_ble_eq_true rfl) (Nat.le_of_ble_eq_true rfl) dX8_misfits_17

