theorem lt_of_pl {pl : Int32} {mn : Nat} (h0 : ¬ pl < 0) (h1 : ¬ nI mn ≤ pl) : aN pl < mn := by
  obtain ⟨j, hj, rfl⟩ := nI_of h0
  rw [show aN (nI j) = j from nI_clamp hj]
  rcases Nat.lt_or_ge j mn with h | h
  · exact h
  · exact absurd (nI_le h hj) h1
/-- the program's arrays hold its steps and its handlers -/
def PR (ad : Nat → Nat) (κ : KS) (τ : TAU) : Prop := (∃ mn, mn ≤ 150 ∧ sI κ 0 = nI mn ∧ ∀ k, k < mn → τ.1 k = some (ad (400 + k))) ∧ ∃ hn, hn ≤ 16 ∧ sI κ 1 = nI hn ∧ ∀ k, k < hn → τ.2.1 k = some (ad (600 + k))
set_option maxHeartbeats 4000000 in
set_option maxRecDepth 100000 in
theorem c_X4_giveUp (l : Launch) {D : va_G} {q : Nat → ClassId} {ad : Nat → Nat} {κ : KS} {τ : TAU} (sz : Nat)  : Met l yX4_giveUp wsX4_giveUp (rmz 0 0) (va_Pc [.ref (ad 3)] (rPre D q (wX q ad κ τ) sz)) (va_Qv (fun (u : KS × TAU) => u = (uI κ 3 0, τ)) (fun (u : KS × TAU) tt => rPo D (rA (wX q ad κ τ) sz) (wX q ad u.1 u.2) tt) (rA (wX q ad κ τ) sz)) 0 0 (rA (wX q ad κ τ) sz) := by
  refine r_start (cc := cX4_giveUp) (maxL := 1) (ret := none) (by decide) rfl (Nat.le_of_ble_eq_true rfl) ?_
  intro p e s m below meth c ls hC hr hlk hnm hsz hw hl
  have hx := hC.1
  have hb := hC.2.1
  have hl : lv_has ls 1 [(0, .ref (ad 3))] := hl
  refine lv_aload_n hx hb dX4_giveUp_0 rfl (lv_at hl 0 rfl) ?_
  refine lv_iconst (v := 0) hx hb dX4_giveUp_1 (by decide) ?_
  refine r_put hC hw rk4 in_X4_giveUp_4 3 (wXl 3 (by decide)) wXc3 6 (by decide) lk_X4_giveUp_68 rfl rfl rfl (Nat.le_of_ble_eq_true rfl) dX4_giveUp_2 (fun H locs hw => ?_)
  replace hw := xP_phase hw
  exact r_vret hC hr hlk hw ((uI κ 3 0), τ) rfl rfl (Nat.le_of_ble_eq_true rfl) (Nat.le_of_ble_eq_true rfl) dX4_giveUp_5

set_option maxHeartbeats 4000000 in
set_option maxRecDepth 100000 in
theorem c_X1_getStep (l : Launch) {D : va_G} {q : Nat → ClassId} {ad : Nat → Nat} {κ : KS} {τ : TAU} (sz : Nat) (pl : Int32) (hP : PR ad κ τ) : Met l yX1_getStep wsX1_getStep (rmz 0 0) (va_Pc [.ref (ad 1), .int pl] (rPre D q (wX q ad κ τ) sz)) (va_Qq (fun (r : Option Nat) (u : Unit) => r = if 0 ≤ pl then (if (sI κ 0) ≤ pl then none else some (ad (400 + aN pl))) else none) (fun (u : Unit) tt => rPo D (rA (wX q ad κ τ) sz) (wX q ad κ τ) tt) (rA (wX q ad κ τ) sz)) 0 0 (rA (wX q ad κ τ) sz) := by
  obtain ⟨⟨mn, hmn, hmx, hS⟩, -⟩ := hP
  refine r_start (cc := cX1_getStep) (maxL := 2) (ret := (some (.object "FaultLoom$Step"))) (by decide) rfl (Nat.le_of_ble_eq_true rfl) ?_
  intro p e s m below meth c ls hC hr hlk hnm hsz hw hl
  have hx := hC.1
  have hb := hC.2.1
  have hl : lv_has ls 2 [(0, .ref (ad 1)), (1, .int pl)] := hl
  refine lv_iload_n hx hb dX1_getStep_0 rfl (lv_at hl 1 rfl) ?_
  refine lv_if_lt (tgt := 30) hx hb dX1_getStep_1 (by decide) (fun c_1 => ?_) (fun c_1 => ?_)
  · refine lv_null hx hb dX1_getStep_30 ?_
    refine r_tops (y := [va_rf none]) rfl ?_
    exact r_qret hC hr hlk hw () rfl (if_neg (Int32.not_le.mpr c_1)).symm (Nat.le_of_ble_eq_true rfl) (Nat.le_of_ble_eq_true rfl) dX1_getStep_31
  · refine lv_iload_n hx hb dX1_getStep_4 rfl (lv_at hl 1 rfl) ?_
    refine lv_aload_n hx hb dX1_getStep_5 rfl (lv_at hl 0 rfl) ?_
    refine r_get hC hw rk1 in_X1_getStep_1 1 (wXl 1 (by decide)) wXc1 2 (by decide) lk_X1_getStep_23 (v := .int (sI κ 0)) rfl dX1_getStep_6 ?_
    refine lv_icmp_ge (tgt := 30) hx hb dX1_getStep_9 (by decide) (fun c_2 => ?_) (fun c_2 => ?_)
    · refine lv_null hx hb dX1_getStep_30 ?_
      refine r_tops (y := [va_rf none]) rfl ?_
      exact r_qret hC hr hlk hw () rfl ((if_pos (Int32.not_lt.mp c_1)).trans (if_pos c_2)).symm (Nat.le_of_ble_eq_true rfl) (Nat.le_of_ble_eq_true rfl) dX1_getStep_31
    · refine lv_iload_n hx hb dX1_getStep_12 rfl (lv_at hl 1 rfl) ?_
      refine lv_aload_n hx hb dX1_getStep_13 rfl (lv_at hl 0 rfl) ?_
      refine r_get hC hw rk1 in_X1_getStep_1 1 (wXl 1 (by decide)) wXc1 0 (by decide) lk_X1_getStep_11 (v := .ref (ad 6)) rfl dX1_getStep_14 ?_
      refine r_alen hC hw 4 rfl 6 (wXl 6 (by decide)) wXc6 (v := nI 150) rfl dX1_getStep_17 ?_
      refine lv_icmp_ge (tgt := 30) hx hb dX1_getStep_18 (by decide) (fun c_ => absurd c_ (fun h => c_2 (Int32.le_trans (by rw [hmx]; exact nI_le hmn (by decide)) h))) (fun _ => ?_)
      refine lv_aload_n hx hb dX1_getStep_21 rfl (lv_at hl 0 rfl) ?_
      refine r_get hC hw rk1 in_X1_getStep_1 1 (wXl 1 (by decide)) wXc1 0 (by decide) lk_X1_getStep_11 (v := .ref (ad 6)) rfl dX1_getStep_22 ?_
      refine lv_iload_n hx hb dX1_getStep_25 rfl (lv_at hl 1 rfl) ?_
      refine r_aald hC hw 4 rfl 6 (wXl 6 (by decide)) wXc6 (inN (n := 150) c_1 (fun h => c_2 (Int32.le_trans (by rw [hmx]; exact nI_le hmn (by decide)) h))) dX1_getStep_26 ?_
      refine lv_goto (tgt := 31) hx hb dX1_getStep_27 (by decide) ?_
      exact r_qret hC hr hlk hw () rfl ((hS _ (lt_of_pl c_1 (by rw [← hmx]; exact c_2))).trans ((if_pos (Int32.not_lt.mp c_1)).trans (if_neg c_2)).symm) (Nat.le_of_ble_eq_true rfl) (Nat.le_of_ble_eq_true rfl) dX1_getStep_31

def goK (κ : KS) (pl : Int32) : KS := if 0 ≤ pl then (if (sI κ 0) ≤ pl then uI (uI κ 4 pl) 3 2 else uI κ 4 pl) else uI (uI κ 4 pl) 3 2
set_option maxHeartbeats 4000000 in
set_option maxRecDepth 100000 in
theorem c_X4_goTo (l : Launch) {D : va_G} {q : Nat → ClassId} {ad : Nat → Nat} {κ : KS} {τ : TAU} (sz : Nat) (pl : Int32) (hP : PR ad κ τ) : Met l yX4_goTo wsX4_goTo (rmz 1 21) (va_Pc [.ref (ad 3), .int pl] (rPre D q (wX q ad κ τ) sz)) (va_Qv (fun (u : KS × TAU) => u = (goK κ pl, τ)) (fun (u : KS × TAU) tt => rPo D (rA (wX q ad κ τ) sz) (wX q ad u.1 u.2) tt) (rA (wX q ad κ τ) sz)) 0 0 (rA (wX q ad κ τ) sz) := by
  refine r_start (cc := cX4_goTo) (maxL := 2) (ret := none) (by decide) rfl (Nat.le_of_ble_eq_true rfl) ?_
  intro p e s m below meth c ls hC hr hlk hnm hsz hw hl
  have hx := hC.1
  have hb := hC.2.1
  have hl : lv_has ls 2 [(0, .ref (ad 3)), (1, .int pl)] := hl
  refine lv_aload_n hx hb dX4_goTo_0 rfl (lv_at hl 0 rfl) ?_
  refine lv_iload_n hx hb dX4_goTo_1 rfl (lv_at hl 1 rfl) ?_
  refine r_put hC hw rk4 in_X4_goTo_4 3 (wXl 3 (by decide)) wXc3 7 (by decide) lk_X4_goTo_75 rfl rfl rfl (Nat.le_of_ble_eq_true rfl) dX4_goTo_2 (fun H locs hw => ?_)
  replace hw := xP_place hw
  refine lv_aload_n hx hb dX4_goTo_5 rfl (lv_at hl 0 rfl) ?_
  refine r_get hC hw rk4 in_X4_goTo_4 3 (wXl 3 (by decide)) wXc3 0 (by decide) lk_X4_goTo_9 (v := .ref (ad 1)) rfl dX4_goTo_6 ?_
  refine lv_iload_n hx hb dX4_goTo_9 rfl (lv_at hl 1 rfl) ?_
  refine r_kq hw (r_runV (rest := []) hC hw 1 (c_X1_getStep (ad := ad) l _ pl (by exact hP)) rk1 (wXl 1 (by decide)) wXc1 1 gX4_goTo_X1_getStep rfl rfl rfl (by decide +kernel) ⟨Nat.le_of_ble_eq_true rfl, Nat.le_of_ble_eq_true rfl⟩ rfl hl.1 rfl (Nat.le_of_ble_eq_true rfl) dX4_goTo_10 ⟨Nat.le_of_ble_eq_true rfl, Nat.le_of_ble_eq_true rfl⟩) (fun r_2 u_3 H locs h_1 hw => ?_)
  replace h_1 : r_2 = if 0 ≤ pl then (if (sI κ 0) ≤ pl then none else some (ad (400 + aN pl))) else none := h_1
  by_cases c_4 : 0 ≤ pl
  · by_cases c_5 : (sI κ 0) ≤ pl
    · rw [if_pos c_4, if_pos c_5] at h_1
      subst h_1
      refine lv_ifnonnullN hx hb dX4_goTo_13 ?_
      refine lv_aload_n hx hb dX4_goTo_16 rfl (lv_at hl 0 rfl) ?_
      refine lv_iconst (v := 2) hx hb dX4_goTo_17 (by decide) ?_
      refine r_put hC hw rk4 in_X4_goTo_4 3 (wXl 3 (by decide)) wXc3 6 (by decide) lk_X4_goTo_68 rfl rfl rfl (Nat.le_of_ble_eq_true rfl) dX4_goTo_18 (fun H locs hw => ?_)
      replace hw := xP_phase hw
      exact r_vret hC hr hlk hw ((uI (uI κ 4 pl) 3 2), τ) rfl (congrArg (fun z => (z, τ)) ((if_pos c_4).trans (if_pos c_5)).symm) (Nat.le_of_ble_eq_true rfl) (Nat.le_of_ble_eq_true rfl) dX4_goTo_21
    · rw [if_pos c_4, if_neg c_5] at h_1
      subst h_1
      refine lv_ifnonnull (tgt := 21) hx hb dX4_goTo_13 (by decide) ?_
      exact r_vret hC hr hlk hw ((uI κ 4 pl), τ) rfl (congrArg (fun z => (z, τ)) ((if_pos c_4).trans (if_neg c_5)).symm) (Nat.le_of_ble_eq_true rfl) (Nat.le_of_ble_eq_true rfl) dX4_goTo_21
  · rw [if_neg c_4] at h_1
    subst h_1
    refine lv_ifnonnullN hx hb dX4_goTo_13 ?_
    refine lv_aload_n hx hb dX4_goTo_16 rfl (lv_at hl 0 rfl) ?_
    refine lv_iconst (v := 2) hx hb dX4_goTo_17 (by decide) ?_
    refine r_put hC hw rk4 in_X4_goTo_4 3 (wXl 3 (by decide)) wXc3 6 (by decide) lk_X4_goTo_68 rfl rfl rfl (Nat.le_of_ble_eq_true rfl) dX4_goTo_18 (fun H locs hw => ?_)
    replace hw := xP_phase hw
    exact r_vret hC hr hlk hw ((uI (uI κ 4 pl) 3 2), τ) rfl (congrArg (fun z => (z, τ)) (if_neg c_4).symm) (Nat.le_of_ble_eq_true rfl) (Nat.le_of_ble_eq_true rfl) dX4_goTo_21

set_option maxHeartbeats 4000000 in
set_option maxRecDepth 100000 in
theorem c_X4_dropCall (l : Launch) {D : va_G} {q : Nat → ClassId} {ad : Nat → Nat} {κ : KS} {τ : TAU} (sz : Nat) (n : Nat) (hn : sI κ 6 = nI (n + 1)) (h12 : n < 12) : Met l yX4_dropCall wsX4_dropCall (rmz 0 0) (va_Pc [.ref (ad 3)] (rPre D q (wX q ad κ τ) sz)) (va_Qi (fun (r : Int32) (u : KS × TAU) => r = sA κ 9 n ∧ u = (uI κ 6 (nI n), τ)) (fun (u : KS × TAU) tt => rPo D (rA (wX q ad κ τ) sz) (wX q ad u.1 u.2) tt) (rA (wX q ad κ τ) sz)) 0 0 (rA (wX q ad κ τ) sz) := by
  have hm1 : (sI κ 6) - 1 = nI n := by rw [hn]; exact nI_pred n
  refine r_start (cc := cX4_dropCall) (maxL := 1) (ret := (some .int)) (by decide) rfl (Nat.le_of_ble_eq_true rfl) ?_
  intro p e s m below meth c ls hC hr hlk hnm hsz hw hl
  have hx := hC.1
  have hb := hC.2.1
  have hl : lv_has ls 1 [(0, .ref (ad 3))] := hl
  refine lv_aload_n hx hb dX4_dropCall_0 rfl (lv_at hl 0 rfl) ?_
  refine lv_dup hx hb dX4_dropCall_1 rfl ?_
  refine r_get hC hw rk4 in_X4_dropCall_4 3 (wXl 3 (by decide)) wXc3 10 (by decide) lk_X4_dropCall_49 (v := .int (sI κ 6)) rfl dX4_dropCall_2 ?_
  refine lv_iconst (v := 1) hx hb dX4_dropCall_5 (by decide) ?_
  refine lv_isub hx hb dX4_dropCall_6 ?_
  refine r_put hC hw rk4 in_X4_dropCall_4 3 (wXl 3 (by decide)) wXc3 10 (by decide) lk_X4_dropCall_49 rfl rfl rfl (Nat.le_of_ble_eq_true rfl) dX4_dropCall_7 (fun H locs hw => ?_)
  replace hw := xP_callCount hw
  refine lv_aload_n hx hb dX4_dropCall_10 rfl (lv_at hl 0 rfl) ?_
  refine r_get hC hw rk4 in_X4_dropCall_4 3 (wXl 3 (by decide)) wXc3 10 (by decide) lk_X4_dropCall_49 (v := .int ((sI κ 6) - 1)) rfl dX4_dropCall_11 ?_
  refine lv_if_lt (tgt := 41) hx hb dX4_dropCall_14 (by decide) (fun c_ => absurd c_ (by rw [hm1]; exact nI_pos (by omega))) (fun _ => ?_)
  refine lv_aload_n hx hb dX4_dropCall_17 rfl (lv_at hl 0 rfl) ?_
  refine r_get hC hw rk4 in_X4_dropCall_4 3 (wXl 3 (by decide)) wXc3 10 (by decide) lk_X4_dropCall_49 (v := .int ((sI κ 6) - 1)) rfl dX4_dropCall_18 ?_
  refine lv_aload_n hx hb dX4_dropCall_21 rfl (lv_at hl 0 rfl) ?_
  refine r_get hC hw rk4 in_X4_dropCall_4 3 (wXl 3 (by decide)) wXc3 4 (by decide) lk_X4_dropCall_35 (v := .ref (ad 13)) rfl dX4_dropCall_22 ?_
  refine r_alen hC hw 0 rfl 13 (wXl 13 (by decide)) wXc13 (v := nI 12) rfl dX4_dropCall_25 ?_
  refine lv_icmp_ge (tgt := 41) hx hb dX4_dropCall_26 (by decide) (fun c_ => absurd c_ (by rw [hm1]; exact nI_ge (by omega) (by decide))) (fun _ => ?_)
  refine lv_aload_n hx hb dX4_dropCall_29 rfl (lv_at hl 0 rfl) ?_
  refine r_get hC hw rk4 in_X4_dropCall_4 3 (wXl 3 (by decide)) wXc3 4 (by decide) lk_X4_dropCall_35 (v := .ref (ad 13)) rfl dX4_dropCall_30 ?_
  refine lv_aload_n hx hb dX4_dropCall_33 rfl (lv_at hl 0 rfl) ?_
  refine r_get hC hw rk4 in_X4_dropCall_4 3 (wXl 3 (by decide)) wXc3 10 (by decide) lk_X4_dropCall_49 (v := .int ((sI κ 6) - 1)) rfl dX4_dropCall_34 ?_
  refine r_iald hC hw 13 (wXl 13 (by decide)) wXc13 (by rw [hm1]; exact vp_in_nI (by omega) (by decide)) dX4_dropCall_37 ?_
  refine lv_goto (tgt := 42) hx hb dX4_dropCall_38 (by decide) ?_
  exact r_iret hC hr hlk hw ((uI κ 6 ((sI κ 6) - 1)), τ) rfl ⟨by rw [hm1]; exact congrArg (sA κ 9) (nI_clamp (by omega)), by rw [hm1]⟩ (Nat.le_of_ble_eq_true rfl) (Nat.le_of_ble_eq_true rfl) dX4_dropCall_42

set_option maxHeartbeats 4000000 in
set_option maxRecDepth 100000 in
theorem c_X4_comeBack0 (l : Launch) {D : va_G} {q : Nat → ClassId} {ad : Nat → Nat} {κ : KS} {τ : TAU} (sz : Nat) (h0 : sI κ 6 = 0) : Met l yX4_comeBack wsX4_comeBack (rmz 1 20) (va_Pc [.ref (ad 3)] (rPre D q (wX q ad κ τ) sz)) (va_Qv (fun (u : KS × TAU) => u = (uI κ 3 2, τ)) (fun (u : KS × TAU) tt => rPo D (rA (wX q ad κ τ) sz) (wX q ad u.1 u.2) tt) (rA (wX q ad κ τ) sz)) 0 0 (rA (wX q ad κ τ) sz) := by
  refine r_start (cc := cX4_comeBack) (maxL := 1) (ret := none) (by decide) rfl (Nat.le_of_ble_eq_true rfl) ?_
  intro p e s m below meth c ls hC hr hlk hnm hsz hw hl
  have hx := hC.1
  have hb := hC.2.1
  have hl : lv_has ls 1 [(0, .ref (ad 3))] := hl
  refine lv_aload_n hx hb dX4_comeBack_0 rfl (lv_at hl 0 rfl) ?_
  refine r_get hC hw rk4 in_X4_comeBack_4 3 (wXl 3 (by decide)) wXc3 10 (by decide) lk_X4_comeBack_49 (v := .int (sI κ 6)) rfl dX4_comeBack_1 ?_
  refine lv_if_gt (tgt := 15) hx hb dX4_comeBack_4 (by decide) (fun c_ => absurd c_ (by rw [h0]; decide)) (fun _ => ?_)
  refine lv_aload_n hx hb dX4_comeBack_7 rfl (lv_at hl 0 rfl) ?_
  refine lv_iconst (v := 2) hx hb dX4_comeBack_8 (by decide) ?_
  refine r_put hC hw rk4 in_X4_comeBack_4 3 (wXl 3 (by decide)) wXc3 6 (by decide) lk_X4_comeBack_68 rfl rfl rfl (Nat.le_of_ble_eq_true rfl) dX4_comeBack_9 (fun H locs hw => ?_)
  replace hw := xP_phase hw
  refine lv_goto (tgt := 25) hx hb dX4_comeBack_12 (by decide) ?_
  exact r_vret hC hr hlk hw ((uI κ 3 2), τ) rfl rfl (Nat.le_of_ble_eq_true rfl) (Nat.le_of_ble_eq_true rfl) dX4_comeBack_25

set_option maxHeartbeats 4000000 in
set_option maxRecDepth 100000 in
theorem c_X4_comeBack (l : Launch) {D : va_G} {q : Nat → ClassId} {ad : Nat → Nat} {κ : KS} {τ : TAU} (sz : Nat) (n : Nat) (hn : sI κ 6 = nI (n + 1)) (h12 : n < 12) : Met l yX4_comeBack wsX4_comeBack (rmz 1 20) (va_Pc [.ref (ad 3)] (rPre D q (wX q ad κ τ) sz)) (va_Qv (fun (u : KS × TAU) => u = (uI κ 6 (nI n), (τ.1, τ.2.1, sA κ 9 n + 1, τ.2.2.2))) (fun (u : KS × TAU) tt => rPo D (rA (wX q ad κ τ) sz) (wX q ad u.1 u.2) tt) (rA (wX q ad κ τ) sz)) 0 0 (rA (wX q ad κ τ) sz) := by
  refine r_start (cc := cX4_comeBack) (maxL := 1) (ret := none) (by decide) rfl (Nat.le_of_ble_eq_true rfl) ?_
  intro p e s m below meth c ls hC hr hlk hnm hsz hw hl
  have hx := hC.1
  have hb := hC.2.1
  have hl : lv_has ls 1 [(0, .ref (ad 3))] := hl
  refine lv_aload_n hx hb dX4_comeBack_0 rfl (lv_at hl 0 rfl) ?_
  refine r_get hC hw rk4 in_X4_comeBack_4 3 (wXl 3 (by decide)) wXc3 10 (by decide) lk_X4_comeBack_49 (v := .int (sI κ 6)) rfl dX4_comeBack_1 ?_
  refine lv_if_gt (tgt := 15) hx hb dX4_comeBack_4 (by decide) (fun _ => ?_) (fun c_ => absurd (by rw [hn, show (0 : Int32) = nI 0 from rfl]; exact nI_lt (by omega) (by omega)) c_)
  refine lv_aload_n hx hb dX4_comeBack_15 rfl (lv_at hl 0 rfl) ?_
  refine lv_aload_n hx hb dX4_comeBack_16 rfl (lv_at hl 0 rfl) ?_
  refine r_ki hw (r_runV (rest := [.ref (ad 3)]) hC hw 3 (c_X4_dropCall (ad := ad) l _ n hn h12) rk4 (wXl 3 (by decide)) wXc3 0 gX4_comeBack_X4_dropCall rfl rfl rfl (by decide +kernel) ⟨Nat.le_of_ble_eq_true rfl, Nat.le_of_ble_eq_true rfl⟩ rfl hl.1 rfl (Nat.le_of_ble_eq_true rfl) dX4_comeBack_17 ⟨Nat.le_of_ble_eq_true rfl, Nat.le_of_ble_eq_true rfl⟩) (fun r_2 u_3 H locs h_1 hw => ?_)
  obtain ⟨rfl, rfl⟩ := h_1
  dsimp only at hw
  refine lv_iconst (v := 1) hx hb dX4_comeBack_20 (by decide) ?_
  refine lv_iadd hx hb dX4_comeBack_21 ?_
  refine r_put hC hw rk4 in_X4_comeBack_4 3 (wXl 3 (by decide)) wXc3 8 (by decide) lk_X4_comeBack_78 rfl rfl rfl (Nat.le_of_ble_eq_true rfl) dX4_comeBack_22 (fun H locs hw => ?_)
  replace hw := xP_next hw
  exact r_vret hC hr hlk hw ((uI κ 6 (nI n)), (τ.1, τ.2.1, (sA κ 9 n) + 1, τ.2.2.2)) rfl rfl (Nat.le_of_ble_eq_true rfl) (Nat.le_of_ble_eq_true rfl) dX4_comeBack_25

set_option maxHeartbeats 4000000 in
set_option maxRecDepth 100000 in
theorem c_X4_callPlace (l : Launch) {D : va_G} {q : Nat → ClassId} {ad : Nat → Nat} {κ : KS} {τ : TAU} (sz : Nat) (tg : Int32) (hc : ¬ sI κ 6 < 0) : Met l yX4_callPlace wsX4_callPlace (rmz 0 0) (va_Pc [.ref (ad 3), .int tg] (rPre D q (wX q ad κ τ) sz)) (va_Qi (fun (r : Int32) (u : KS × TAU) => (r, u) = if (nI 12) ≤ (sI κ 6) then (7, (κ, τ)) else (0, (uI (uA κ 9 (aN (sI κ 6)) (sI κ 4)) 6 (sI κ 6 + 1), (τ.1, τ.2.1, tg, τ.2.2.2)))) (fun (u : KS × TAU) tt => rPo D (rA (wX q ad κ τ) sz) (wX q ad u.1 u.2) tt) (rA (wX q ad κ τ) sz)) 0 0 (rA (wX q ad κ τ) sz) := by
  refine r_start (cc := cX4_callPlace) (maxL := 2) (ret := (some .int)) (by decide) rfl (Nat.le_of_ble_eq_true rfl) ?_
  intro p e s m below meth c ls hC hr hlk hnm hsz hw hl
  have hx := hC.1
  have hb := hC.2.1
  have hl : lv_has ls 2 [(0, .ref (ad 3)), (1, .int tg)] := hl
  refine lv_aload_n hx hb dX4_callPlace_0 rfl (lv_at hl 0 rfl) ?_
  refine r_get hC hw rk4 in_X4_callPlace_4 3 (wXl 3 (by decide)) wXc3 10 (by decide) lk_X4_callPlace_49 (v := .int (sI κ 6)) rfl dX4_callPlace_1 ?_
  refine lv_if_lt (tgt := 19) hx hb dX4_callPlace_4 (by decide) (fun c_ => absurd c_ hc) (fun _ => ?_)
  refine lv_aload_n hx hb dX4_callPlace_7 rfl (lv_at hl 0 rfl) ?_
  refine r_get hC hw rk4 in_X4_callPlace_4 3 (wXl 3 (by decide)) wXc3 10 (by decide) lk_X4_callPlace_49 (v := .int (sI κ 6)) rfl dX4_callPlace_8 ?_
  refine lv_aload_n hx hb dX4_callPlace_11 rfl (lv_at hl 0 rfl) ?_
  refine r_get hC hw rk4 in_X4_callPlace_4 3 (wXl 3 (by decide)) wXc3 4 (by decide) lk_X4_callPlace_35 (v := .ref (ad 13)) rfl dX4_callPlace_12 ?_
  refine r_alen hC hw 0 rfl 13 (wXl 13 (by decide)) wXc13 (v := nI 12) rfl dX4_callPlace_15 ?_
  refine lv_icmp_lt (tgt := 22) hx hb dX4_callPlace_16 (by decide) (fun c_1 => ?_) (fun c_1 => ?_)
  · refine lv_aload_n hx hb dX4_callPlace_22 rfl (lv_at hl 0 rfl) ?_
    refine r_get hC hw rk4 in_X4_callPlace_4 3 (wXl 3 (by decide)) wXc3 4 (by decide) lk_X4_callPlace_35 (v := .ref (ad 13)) rfl dX4_callPlace_23 ?_
    refine lv_aload_n hx hb dX4_callPlace_26 rfl (lv_at hl 0 rfl) ?_
    refine r_get hC hw rk4 in_X4_callPlace_4 3 (wXl 3 (by decide)) wXc3 10 (by decide) lk_X4_callPlace_49 (v := .int (sI κ 6)) rfl dX4_callPlace_27 ?_
    refine lv_aload_n hx hb dX4_callPlace_30 rfl (lv_at hl 0 rfl) ?_
    refine r_get hC hw rk4 in_X4_callPlace_4 3 (wXl 3 (by decide)) wXc3 7 (by decide) lk_X4_callPlace_75 (v := .int (sI κ 4)) rfl dX4_callPlace_31 ?_
    refine r_iast hC hw 13 (wXl 13 (by decide)) wXc13 (inN hc (Int32.not_le.mpr c_1)) dX4_callPlace_34 (fun H locs hw => ?_)
    replace hw := xS_calls hw
    refine lv_aload_n hx hb dX4_callPlace_35 rfl (lv_at hl 0 rfl) ?_
    refine lv_dup hx hb dX4_callPlace_36 rfl ?_
    refine r_get hC hw rk4 in_X4_callPlace_4 3 (wXl 3 (by decide)) wXc3 10 (by decide) lk_X4_callPlace_49 (v := .int (sI κ 6)) rfl dX4_callPlace_37 ?_
    refine lv_iconst (v := 1) hx hb dX4_callPlace_40 (by decide) ?_
    refine lv_iadd hx hb dX4_callPlace_41 ?_
    refine r_put hC hw rk4 in_X4_callPlace_4 3 (wXl 3 (by decide)) wXc3 10 (by decide) lk_X4_callPlace_49 rfl rfl rfl (Nat.le_of_ble_eq_true rfl) dX4_callPlace_42 (fun H locs hw => ?_)
    replace hw := xP_callCount hw
    refine lv_aload_n hx hb dX4_callPlace_45 rfl (lv_at hl 0 rfl) ?_
    refine lv_iload_n hx hb dX4_callPlace_46 rfl (lv_at hl 1 rfl) ?_
    refine r_put hC hw rk4 in_X4_callPlace_4 3 (wXl 3 (by decide)) wXc3 8 (by decide) lk_X4_callPlace_78 rfl rfl rfl (Nat.le_of_ble_eq_true rfl) dX4_callPlace_47 (fun H locs hw => ?_)
    replace hw := xP_next hw
    refine lv_iconst (v := 0) hx hb dX4_callPlace_50 (by decide) ?_
    exact r_iret hC hr hlk hw ((uI (uA κ 9 (aN (sI κ 6)) (sI κ 4)) 6 ((sI κ 6) + 1)), (τ.1, τ.2.1, tg, τ.2.2.2)) rfl (if_neg (Int32.not_le.mpr c_1)).symm (Nat.le_of_ble_eq_true rfl) (Nat.le_of_ble_eq_true rfl) dX4_callPlace_51
  · refine lv_bipush (v := 7) hx hb dX4_callPlace_19 (by decide) ?_
    exact r_iret hC hr hlk hw (κ, τ) rfl (if_pos (Int32.not_lt.mp c_1)).symm (Nat.le_of_ble_eq_true rfl) (Nat.le_of_ble_eq_true rfl) dX4_callPlace_21

set_option maxHeartbeats 4000000 in
set_option maxRecDepth 100000 in
theorem c_X4_tell (l : Launch) {D : va_G} {q : Nat → ClassId} {ad : Nat → Nat} {κ : KS} {τ : TAU} (sz : Nat) (v0 : Int32) (hT : ¬ sI κ 7 < 0) : Met l yX4_tell wsX4_tell (rmz 0 0) (va_Pc [.ref (ad 3), .int v0] (rPre D q (wX q ad κ τ) sz)) (va_Qv (fun (u : KS × TAU) => u = (uI (if (nI 200) ≤ (sI κ 7) then κ else uA κ 10 (aN (sI κ 7)) v0) 7 (sI κ 7 + 1), τ)) (fun (u : KS × TAU) tt => rPo D (rA (wX q ad κ τ) sz) (wX q ad u.1 u.2) tt) (rA (wX q ad κ τ) sz)) 0 0 (rA (wX q ad κ τ) sz) := by
  refine r_start (cc := cX4_tell) (maxL := 2) (ret := none) (by decide) rfl (Nat.le_of_ble_eq_true rfl) ?_
  intro p e s m below meth c ls hC hr hlk hnm hsz hw hl
  have hx := hC.1
  have hb := hC.2.1
  have hl : lv_has ls 2 [(0, .ref (ad 3)), (1, .int v0)] := hl
  refine lv_aload_n hx hb dX4_tell_0 rfl (lv_at hl 0 rfl) ?_
  refine r_get hC hw rk4 in_X4_tell_4 3 (wXl 3 (by decide)) wXc3 11 (by decide) lk_X4_tell_52 (v := .int (sI κ 7)) rfl dX4_tell_1 ?_
  refine lv_if_lt (tgt := 29) hx hb dX4_tell_4 (by decide) (fun c_ => absurd c_ hT) (fun _ => ?_)
  refine lv_aload_n hx hb dX4_tell_7 rfl (lv_at hl 0 rfl) ?_
  refine r_get hC hw rk4 in_X4_tell_4 3 (wXl 3 (by decide)) wXc3 11 (by decide) lk_X4_tell_52 (v := .int (sI κ 7)) rfl dX4_tell_8 ?_
  refine lv_aload_n hx hb dX4_tell_11 rfl (lv_at hl 0 rfl) ?_
  refine r_get hC hw rk4 in_X4_tell_4 3 (wXl 3 (by decide)) wXc3 5 (by decide) lk_X4_tell_39 (v := .ref (ad 14)) rfl dX4_tell_12 ?_
  refine r_alen hC hw 0 rfl 14 (wXl 14 (by decide)) wXc14 (v := nI 200) rfl dX4_tell_15 ?_
  refine lv_icmp_ge (tgt := 29) hx hb dX4_tell_16 (by decide) (fun c_1 => ?_) (fun c_1 => ?_)
  · refine lv_aload_n hx hb dX4_tell_29 rfl (lv_at hl 0 rfl) ?_
    refine lv_dup hx hb dX4_tell_30 rfl ?_
    refine r_get hC hw rk4 in_X4_tell_4 3 (wXl 3 (by decide)) wXc3 11 (by decide) lk_X4_tell_52 (v := .int (sI κ 7)) rfl dX4_tell_31 ?_
    refine lv_iconst (v := 1) hx hb dX4_tell_34 (by decide) ?_
    refine lv_iadd hx hb dX4_tell_35 ?_
    refine r_put hC hw rk4 in_X4_tell_4 3 (wXl 3 (by decide)) wXc3 11 (by decide) lk_X4_tell_52 rfl rfl rfl (Nat.le_of_ble_eq_true rfl) dX4_tell_36 (fun H locs hw => ?_)
    replace hw := xP_toldCount hw
    exact r_vret hC hr hlk hw ((uI κ 7 ((sI κ 7) + 1)), τ) rfl (congrArg (fun z => (uI z 7 (sI κ 7 + 1), τ)) (if_pos c_1).symm) (Nat.le_of_ble_eq_true rfl) (Nat.le_of_ble_eq_true rfl) dX4_tell_39
  · refine lv_aload_n hx hb dX4_tell_19 rfl (lv_at hl 0 rfl) ?_
    refine r_get hC hw rk4 in_X4_tell_4 3 (wXl 3 (by decide)) wXc3 5 (by decide) lk_X4_tell_39 (v := .ref (ad 14)) rfl dX4_tell_20 ?_
    refine lv_aload_n hx hb dX4_tell_23 rfl (lv_at hl 0 rfl) ?_
    refine r_get hC hw rk4 in_X4_tell_4 3 (wXl 3 (by decide)) wXc3 11 (by decide) lk_X4_tell_52 (v := .int (sI κ 7)) rfl dX4_tell_24 ?_
    refine lv_iload_n hx hb dX4_tell_27 rfl (lv_at hl 1 rfl) ?_
    refine r_iast hC hw 14 (wXl 14 (by decide)) wXc14 (inN hT c_1) dX4_tell_28 (fun H locs hw => ?_)
    replace hw := xS_told hw
    refine lv_aload_n hx hb dX4_tell_29 rfl (lv_at hl 0 rfl) ?_
    refine lv_dup hx hb dX4_tell_30 rfl ?_
    refine r_get hC hw rk4 in_X4_tell_4 3 (wXl 3 (by decide)) wXc3 11 (by decide) lk_X4_tell_52 (v := .int (sI κ 7)) rfl dX4_tell_31 ?_
    refine lv_iconst (v := 1) hx hb dX4_tell_34 (by decide) ?_
    refine lv_iadd hx hb dX4_tell_35 ?_
    refine r_put hC hw rk4 in_X4_tell_4 3 (wXl 3 (by decide)) wXc3 11 (by decide) lk_X4_tell_52 rfl rfl rfl (Nat.le_of_ble_eq_true rfl) dX4_tell_36 (fun H locs hw => ?_)
    replace hw := xP_toldCount hw
    exact r_vret hC hr hlk hw ((uI (uA κ 10 (aN (sI κ 7)) v0) 7 ((sI κ 7) + 1)), τ) rfl (congrArg (fun z => (uI z 7 (sI κ 7 + 1), τ)) (if_neg c_1).symm) (Nat.le_of_ble_eq_true rfl) (Nat.le_of_ble_eq_true rfl) dX4_tell_39

set_option maxHeartbeats 4000000 in
set_option maxRecDepth 100000 in
theorem c_X4_getTold (l : Launch) {D : va_G} {q : Nat → ClassId} {ad : Nat → Nat} {κ : KS} {τ : TAU} (sz : Nat) (i0 : Int32) : Met l yX4_getTold wsX4_getTold (rmz 0 0) (va_Pc [.ref (ad 3), .int i0] (rPre D q (wX q ad κ τ) sz)) (va_Qi (fun (r : Int32) (u : Unit) => r = if 0 ≤ i0 then (if (sI κ 7) ≤ i0 then 0 else (if (nI 200) ≤ i0 then 0 else sA κ 10 (aN i0))) else 0) (fun (u : Unit) tt => rPo D (rA (wX q ad κ τ) sz) (wX q ad κ τ) tt) (rA (wX q ad κ τ) sz)) 0 0 (rA (wX q ad κ τ) sz) := by
  refine r_start (cc := cX4_getTold) (maxL := 2) (ret := (some .int)) (by decide) rfl (Nat.le_of_ble_eq_true rfl) ?_
  intro p e s m below meth c ls hC hr hlk hnm hsz hw hl
  have hx := hC.1
  have hb := hC.2.1
  have hl : lv_has ls 2 [(0, .ref (ad 3)), (1, .int i0)] := hl
  refine lv_iload_n hx hb dX4_getTold_0 rfl (lv_at hl 1 rfl) ?_
  refine lv_if_lt (tgt := 30) hx hb dX4_getTold_1 (by decide) (fun c_1 => ?_) (fun c_1 => ?_)
  · refine lv_iconst (v := 0) hx hb dX4_getTold_30 (by decide) ?_
    exact r_iret hC hr hlk hw () rfl (if_neg (Int32.not_le.mpr c_1)).symm (Nat.le_of_ble_eq_true rfl) (Nat.le_of_ble_eq_true rfl) dX4_getTold_31
  · refine lv_iload_n hx hb dX4_getTold_4 rfl (lv_at hl 1 rfl) ?_
    refine lv_aload_n hx hb dX4_getTold_5 rfl (lv_at hl 0 rfl) ?_
    refine r_get hC hw rk4 in_X4_getTold_4 3 (wXl 3 (by decide)) wXc3 11 (by decide) lk_X4_getTold_52 (v := .int (sI κ 7)) rfl dX4_getTold_6 ?_
    refine lv_icmp_ge (tgt := 30) hx hb dX4_getTold_9 (by decide) (fun c_2 => ?_) (fun c_2 => ?_)
    · refine lv_iconst (v := 0) hx hb dX4_getTold_30 (by decide) ?_
      exact r_iret hC hr hlk hw () rfl ((if_pos (Int32.not_lt.mp c_1)).trans (if_pos c_2)).symm (Nat.le_of_ble_eq_true rfl) (Nat.le_of_ble_eq_true rfl) dX4_getTold_31
    · refine lv_iload_n hx hb dX4_getTold_12 rfl (lv_at hl 1 rfl) ?_
      refine lv_aload_n hx hb dX4_getTold_13 rfl (lv_at hl 0 rfl) ?_
      refine r_get hC hw rk4 in_X4_getTold_4 3 (wXl 3 (by decide)) wXc3 5 (by decide) lk_X4_getTold_39 (v := .ref (ad 14)) rfl dX4_getTold_14 ?_
      refine r_alen hC hw 0 rfl 14 (wXl 14 (by decide)) wXc14 (v := nI 200) rfl dX4_getTold_17 ?_
      refine lv_icmp_ge (tgt := 30) hx hb dX4_getTold_18 (by decide) (fun c_3 => ?_) (fun c_3 => ?_)
      · refine lv_iconst (v := 0) hx hb dX4_getTold_30 (by decide) ?_
        exact r_iret hC hr hlk hw () rfl ((if_pos (Int32.not_lt.mp c_1)).trans ((if_neg c_2).trans (if_pos c_3))).symm (Nat.le_of_ble_eq_true rfl) (Nat.le_of_ble_eq_true rfl) dX4_getTold_31
      · refine lv_aload_n hx hb dX4_getTold_21 rfl (lv_at hl 0 rfl) ?_
        refine r_get hC hw rk4 in_X4_getTold_4 3 (wXl 3 (by decide)) wXc3 5 (by decide) lk_X4_getTold_39 (v := .ref (ad 14)) rfl dX4_getTold_22 ?_
        refine lv_iload_n hx hb dX4_getTold_25 rfl (lv_at hl 1 rfl) ?_
        refine r_iald hC hw 14 (wXl 14 (by decide)) wXc14 (inN c_1 c_3) dX4_getTold_26 ?_
        refine lv_goto (tgt := 31) hx hb dX4_getTold_27 (by decide) ?_
        exact r_iret hC hr hlk hw () rfl ((if_pos (Int32.not_lt.mp c_1)).trans ((if_neg c_2).trans (if_neg c_3))).symm (Nat.le_of_ble_eq_true rfl) (Nat.le_of_ble_eq_true rfl) dX4_getTold_31

set_option maxHeartbeats 4000000 in
set_option maxRecDepth 100000 in
theorem c_X4_throwFaultN (l : Launch) {D : va_G} {q : Nat → ClassId} {ad : Nat → Nat} {κ : KS} {τ : TAU} (sz : Nat) (xa xb xc : Int32) (hs : okStep 68 xa xb xc) (hX : WFx κ) (c0 : (sA κ 3 (aN xa)) = 0) : Met l yX4_throwFault wsX4_throwFault (rmz 1 21) (va_Pc [.null] (rPre D q (wX q ad κ τ) sz)) (va_Qi (fun (r : Int32) (u : Unit) => r = why κ 68 xa xb xc) (fun (u : Unit) tt => rPo D (rA (wX q ad κ τ) sz) (wX q ad κ τ) tt) (rA (wX q ad κ τ) sz)) 0 0 (rA (wX q ad κ τ) sz) := by
  have hi0 : vp_in xa 8 := hs.1
  refine r_start (cc := cX4_throwFault) (maxL := 1) (ret := (some .int)) (by decide) rfl (Nat.le_of_ble_eq_true rfl) ?_
  intro p e s m below meth c ls hC hr hlk hnm hsz hw hl
  have hx := hC.1
  have hb := hC.2.1
  have hl : lv_has ls 1 [(0, .null)] := hl
  refine lv_aload_nN hx hb dX4_throwFault_0 rfl (lv_at hl 0 rfl) ?_
  refine lv_ifnonnullN hx hb dX4_throwFault_1 ?_
  refine lv_iconst (v := 1) hx hb dX4_throwFault_4 (by decide) ?_
  exact r_iret hC hr hlk hw () rfl (if_pos c0).symm (Nat.le_of_ble_eq_true rfl) (Nat.le_of_ble_eq_true rfl) dX4_throwFault_5

set_option maxHeartbeats 4000000 in
set_option maxRecDepth 100000 in
theorem c_X4_throwFault (l : Launch) {D : va_G} {q : Nat → ClassId} {ad : Nat → Nat} {κ : KS} {τ : TAU} (sz : Nat) (xa xb xc : Int32) (hs : okStep 68 xa xb xc) (hX : WFx κ) (c0 : ¬ (sA κ 3 (aN xa)) = 0) : Met l yX4_throwFault wsX4_throwFault (rmz 1 21) (va_Pc [.ref (ad (100 + 4 * (aN ((sA κ 3 (aN xa)) - 1))))] (rPre D q (wX q ad κ τ) sz)) (va_Qi (fun (r : Int32) (u : Unit) => r = why κ 68 xa xb xc) (fun (u : Unit) tt => rPo D (rA (wX q ad κ τ) sz) (wX q ad κ τ) tt) (rA (wX q ad κ τ) sz)) 0 0 (rA (wX q ad κ τ) sz) := by
  have hi0 : vp_in xa 8 := hs.1
  have hB_a := hX.2.1 xa (by assumption) c0
  have h6_a : (aN ((sA κ 3 (aN xa)) - 1)) < 60 := Nat.lt_of_lt_of_le hB_a.2 hX.1
  have hl_a : (wX q ad κ τ).2.1 (100 + 4 * (aN ((sA κ 3 (aN xa)) - 1))) := thl hB_a.2
  have hc_a : (wX q ad κ τ).2.2 (100 + 4 * (aN ((sA κ 3 (aN xa)) - 1))) = .inr (6, fsT ad κ (aN ((sA κ 3 (aN xa)) - 1))) := thc h6_a
  have hk_a := hX.2.2.1 _ hB_a.2
  refine r_start (cc := cX4_throwFault) (maxL := 1) (ret := (some .int)) (by decide) rfl (Nat.le_of_ble_eq_true rfl) ?_
  intro p e s m below meth c ls hC hr hlk hnm hsz hw hl
  have hx := hC.1
  have hb := hC.2.1
  have hl : lv_has ls 1 [(0, .ref (ad (100 + 4 * (aN ((sA κ 3 (aN xa)) - 1)))))] := hl
  refine lv_aload_n hx hb dX4_throwFault_0 rfl (lv_at hl 0 rfl) ?_
  refine lv_ifnonnull (tgt := 6) hx hb dX4_throwFault_1 (by decide) ?_
  refine lv_aload_n hx hb dX4_throwFault_6 rfl (lv_at hl 0 rfl) ?_
  refine lv_bipush (v := 15) hx hb dX4_throwFault_7 (by decide) ?_
  refine r_ki hw (r_runV (rest := []) hC hw (100 + 4 * (aN ((sA κ 3 (aN xa)) - 1))) (c_X6_isOf_15 l _ _ (100 + 4 * (aN ((sA κ 3 (aN xa)) - 1))) hk_a.1 hl_a hc_a) rk6 hl_a hc_a 1 gX4_throwFault_X6_isOf rfl rfl rfl (by decide +kernel) ⟨Nat.le_of_ble_eq_true rfl, Nat.le_of_ble_eq_true rfl⟩ rfl hl.1 rfl (Nat.le_of_ble_eq_true rfl) dX4_throwFault_9 ⟨Nat.le_of_ble_eq_true rfl, Nat.le_of_ble_eq_true rfl⟩) (fun r_2 u_3 H locs h_1 hw => ?_)
  by_cases c_4 : pOf (sA κ 4 (aN ((sA κ 3 (aN xa)) - 1))) 15
  · rw [if_pos c_4] at h_1
    subst h_1
    have w_5 : ¬ pWrong κ (sA κ 3 (aN xa)) 15 := fun h => h.2 c_4
    refine lv_if_eq (tgt := 22) hx hb dX4_throwFault_12 (by decide) (fun c_ => absurd c_ (by decide)) (fun _ => ?_)
    refine lv_aload_n hx hb dX4_throwFault_15 rfl (lv_at hl 0 rfl) ?_
    refine r_get hC hw rk6 in_X4_throwFault_6 (100 + 4 * (aN ((sA κ 3 (aN xa)) - 1))) hl_a hc_a 5 (by decide) lk_X4_throwFault_153 (v := .int (sA κ 7 (aN ((sA κ 3 (aN xa)) - 1)))) rfl dX4_throwFault_16 ?_
    refine lv_goto (tgt := 23) hx hb dX4_throwFault_19 (by decide) ?_
    exact r_iret hC hr hlk hw () rfl ((if_neg c0).trans (if_neg w_5)).symm (Nat.le_of_ble_eq_true rfl) (Nat.le_of_ble_eq_true rfl) dX4_throwFault_23
  · rw [if_neg c_4] at h_1
    subst h_1
    have w_6 : pWrong κ (sA κ 3 (aN xa)) 15 := ⟨c0, c_4⟩
    refine lv_if_eq (tgt := 22) hx hb dX4_throwFault_12 (by decide) (fun _ => ?_) (fun c_ => absurd (by decide) c_)
    refine lv_iconst (v := 4) hx hb dX4_throwFault_22 (by decide) ?_
    exact r_iret hC hr hlk hw () rfl ((if_neg c0).trans (if_pos w_6)).symm (Nat.le_of_ble_eq_true rfl) (Nat.le_of_ble_eq_true rfl) dX4_throwFault_23

