/-- the thing that a register holds, by its number; 0: none -/
def thV (κ : KS) (r : Int32) : Int32 := if pIn r 0 7 then sA κ 3 (aN r) else 0
theorem p8 {r : Int32} (h : pIn r 0 7) : vp_in r 8 := by
  obtain ⟨j, hj, e⟩ := nI_of2 (M := 7) (n := 7) (by decide) h.1 (Int32.not_lt.mp h.2)
  rw [e]; exact vp_in_nI (by omega) (by decide)
theorem p4 {r : Int32} (h : pIn r 0 3) : vp_in r 4 := by
  obtain ⟨j, hj, e⟩ := nI_of2 (M := 3) (n := 3) (by decide) h.1 (Int32.not_lt.mp h.2)
  rw [e]; exact vp_in_nI (by omega) (by decide)
theorem gN_8 {α : Type} {f : Nat → α} {z : α} (r : Int32) : gN 8 f z r = if pIn r 0 7 then f (aN r) else z := by
  by_cases h : pIn r 0 7
  · rw [if_pos h, gN_in (p8 h) (by decide)]
  · rw [if_neg h]
    unfold gN
    by_cases h0 : 0 ≤ r
    · rw [if_pos h0]
      by_cases h1 : nI 8 ≤ r
      · rw [if_pos h1]
      · exact absurd ⟨Int32.not_lt.mpr h0, fun q => h1 (lt_le1 (a := 7) (b := nI 8) (by decide) q)⟩ h
    · rw [if_neg h0]
theorem gN_4 {α : Type} {f : Nat → α} {z : α} (r : Int32) : gN 4 f z r = if pIn r 0 3 then f (aN r) else z := by
  by_cases h : pIn r 0 3
  · rw [if_pos h, gN_in (p4 h) (by decide)]
  · rw [if_neg h]
    unfold gN
    by_cases h0 : 0 ≤ r
    · rw [if_pos h0]
      by_cases h1 : nI 4 ≤ r
      · rw [if_pos h1]
      · exact absurd ⟨Int32.not_lt.mpr h0, fun q => h1 (lt_le1 (a := 3) (b := nI 4) (by decide) q)⟩ h
    · rw [if_neg h0]
theorem gN_th (κ : KS) (ad : Nat → Nat) (r : Int32) : gN 8 (fun j => (rT (sA κ 3 j)).map ad) none r = (rT (thV κ r)).map ad := by
  rw [gN_8]
  unfold thV
  by_cases h : pIn r 0 7
  · rw [if_pos h, if_pos h]
  · rw [if_neg h, if_neg h]; rfl
theorem thI_V (κ : KS) (r : Int32) : thI κ r = thV κ r - 1 := by
  unfold thI thV
  by_cases h : pIn r 0 7
  · rw [if_pos h, if_pos h]
  · rw [if_neg h, if_neg h]; rfl
theorem INV.thv {B M : Nat} {κ : KS} {th : Int32} (h : INV B M κ th) (r : Int32) : vr M (thV κ r) := by
  unfold thV
  split
  · exact h.i3 _
  · exact vr0 _
theorem vr_pos {M : Nat} {v : Int32} (h : vr M v) (hM : M ≤ 60) (h0 : ¬ v = 0) : 0 ≤ v - 1 := Int32.not_lt.mp (fun q => (vr_at h hM h0).1 (Or.inl q))
theorem vr_neg {v : Int32} (h0 : v = 0) : ¬ 0 ≤ v - 1 := by rw [h0]; decide
set_option maxHeartbeats 4000000 in
set_option maxRecDepth 100000 in
theorem c_X8_kindOfN (l : Launch) {D : va_G} {q : Nat → ClassId} {ad : Nat → Nat} {κ : KS} {τ : TAU} (sz : Nat) (vv : Int32) (h0 : vv = 0) : Met l yX8_kindOf wsX8_kindOf (rmz 0 0) (va_Pc [.null] (rPre D q (wX q ad κ τ) sz)) (va_Qi (fun (r : Int32) (u : Unit) => r = kdR κ vv) (fun (u : Unit) tt => rPo D (rA (wX q ad κ τ) sz) (wX q ad κ τ) tt) (rA (wX q ad κ τ) sz)) 0 0 (rA (wX q ad κ τ) sz) := by
  refine r_start (cc := cX8_kindOf) (maxL := 1) (ret := (some .int)) (by decide) rfl (Nat.le_of_ble_eq_true rfl) ?_
  intro p e s m below meth c ls hC hr hlk hnm hsz hw hl
  have hx := hC.1
  have hb := hC.2.1
  have hl : lv_has ls 1 [(0, .null)] := hl
  refine lv_aload_nN hx hb dX8_kindOf_0 rfl (lv_at hl 0 rfl) ?_
  refine lv_ifnonnullN hx hb dX8_kindOf_1 ?_
  refine lv_iconst (v := (-1)) hx hb dX8_kindOf_4 (by decide) ?_
  refine lv_goto (tgt := 12) hx hb dX8_kindOf_5 (by decide) ?_
  exact r_iret hC hr hlk hw () rfl (if_pos h0).symm (Nat.le_of_ble_eq_true rfl) (Nat.le_of_ble_eq_true rfl) dX8_kindOf_12

set_option maxHeartbeats 4000000 in
set_option maxRecDepth 100000 in
theorem c_X8_kindOfT (l : Launch) {D : va_G} {q : Nat → ClassId} {ad : Nat → Nat} {κ : KS} {τ : TAU} (sz : Nat) {B M : Nat} {th : Int32} (hI : INV B M κ th) (vv : Int32) (hvr : vr M vv) (h0 : ¬ vv = 0) : Met l yX8_kindOf wsX8_kindOf (rmz 0 0) (va_Pc [.ref (ad (100 + 4 * (aN (vv - 1))))] (rPre D q (wX q ad κ τ) sz)) (va_Qi (fun (r : Int32) (u : Unit) => r = kdR κ vv) (fun (u : Unit) tt => rPo D (rA (wX q ad κ τ) sz) (wX q ad κ τ) tt) (rA (wX q ad κ τ) sz)) 0 0 (rA (wX q ad κ τ) sz) := by
  have hB_v := vr_at hvr hI.m60 h0
  have hM_v : (aN (vv - 1)) < aN (sI κ 2) := by rw [hI.mN]; exact hB_v.2.1
  have h6_v : (aN (vv - 1)) < 60 := Nat.lt_of_lt_of_le hB_v.2.1 hI.m60
  have hl_v : (wX q ad κ τ).2.1 (100 + 4 * (aN (vv - 1))) := thl hM_v
  have hc_v : (wX q ad κ τ).2.2 (100 + 4 * (aN (vv - 1))) = .inr (6, fsT ad κ (aN (vv - 1))) := thc h6_v
  have hT_v := hI.i4 _ hB_v.2.1
  have hk_v : vp_in (sA κ 4 (aN (vv - 1))) 16 ∧ vp_in (sA κ 5 (aN (vv - 1))) 13 := ⟨hT_v.1, hT_v.2.1⟩
  refine r_start (cc := cX8_kindOf) (maxL := 1) (ret := (some .int)) (by decide) rfl (Nat.le_of_ble_eq_true rfl) ?_
  intro p e s m below meth c ls hC hr hlk hnm hsz hw hl
  have hx := hC.1
  have hb := hC.2.1
  have hl : lv_has ls 1 [(0, .ref (ad (100 + 4 * (aN (vv - 1)))))] := hl
  refine lv_aload_n hx hb dX8_kindOf_0 rfl (lv_at hl 0 rfl) ?_
  refine lv_ifnonnull (tgt := 8) hx hb dX8_kindOf_1 (by decide) ?_
  refine lv_aload_n hx hb dX8_kindOf_8 rfl (lv_at hl 0 rfl) ?_
  refine r_get hC hw rk6 in_X8_kindOf_6 (100 + 4 * (aN (vv - 1))) hl_v hc_v 0 (by decide) lk_X8_kindOf_161 (v := .int (sA κ 4 (aN (vv - 1)))) rfl dX8_kindOf_9 ?_
  exact r_iret hC hr hlk hw () rfl (if_neg h0).symm (Nat.le_of_ble_eq_true rfl) (Nat.le_of_ble_eq_true rfl) dX8_kindOf_12

theorem c_X8_kindOf (l : Launch) {D : va_G} {q : Nat → ClassId} {ad : Nat → Nat} {κ : KS} {τ : TAU} (sz : Nat) {B M : Nat} {th : Int32} (hI : INV B M κ th) (vv : Int32) (hvr : vr M vv) : Met l yX8_kindOf wsX8_kindOf (rmz 0 0) (va_Pc [va_rf ((rT vv).map ad)] (rPre D q (wX q ad κ τ) sz)) (va_Qi (fun (r : Int32) (u : Unit) => r = kdR κ vv) (fun (u : Unit) tt => rPo D (rA (wX q ad κ τ) sz) (wX q ad κ τ) tt) (rA (wX q ad κ τ) sz)) 0 0 (rA (wX q ad κ τ) sz) := by
  by_cases h0 : vv = 0
  · rw [rT0 h0]; exact c_X8_kindOfN l sz vv h0
  · rw [rT1 h0]; exact c_X8_kindOfT l sz hI vv hvr h0

set_option maxHeartbeats 4000000 in
set_option maxRecDepth 100000 in
theorem c_X8_placesOfN (l : Launch) {D : va_G} {q : Nat → ClassId} {ad : Nat → Nat} {κ : KS} {τ : TAU} (sz : Nat) (vv : Int32) (h0 : vv = 0) : Met l yX8_placesOf wsX8_placesOf (rmz 1 20) (va_Pc [.null] (rPre D q (wX q ad κ τ) sz)) (va_Qi (fun (r : Int32) (u : Unit) => r = if vv = 0 then -1 else (if pRow (sA κ 4 (aN (vv - 1))) then sA κ 5 (aN (vv - 1)) else -1)) (fun (u : Unit) tt => rPo D (rA (wX q ad κ τ) sz) (wX q ad κ τ) tt) (rA (wX q ad κ τ) sz)) 0 0 (rA (wX q ad κ τ) sz) := by
  refine r_start (cc := cX8_placesOf) (maxL := 1) (ret := (some .int)) (by decide) rfl (Nat.le_of_ble_eq_true rfl) ?_
  intro p e s m below meth c ls hC hr hlk hnm hsz hw hl
  have hx := hC.1
  have hb := hC.2.1
  have hl : lv_has ls 1 [(0, .null)] := hl
  refine lv_aload_nN hx hb dX8_placesOf_0 rfl (lv_at hl 0 rfl) ?_
  refine lv_ifnullN (tgt := 11) hx hb dX8_placesOf_1 (by decide) ?_
  refine lv_iconst (v := (-1)) hx hb dX8_placesOf_11 (by decide) ?_
  refine lv_goto (tgt := 19) hx hb dX8_placesOf_12 (by decide) ?_
  exact r_iret hC hr hlk hw () rfl (if_pos h0).symm (Nat.le_of_ble_eq_true rfl) (Nat.le_of_ble_eq_true rfl) dX8_placesOf_19

set_option maxHeartbeats 4000000 in
set_option maxRecDepth 100000 in
theorem c_X8_placesOfT (l : Launch) {D : va_G} {q : Nat → ClassId} {ad : Nat → Nat} {κ : KS} {τ : TAU} (sz : Nat) {B M : Nat} {th : Int32} (hI : INV B M κ th) (vv : Int32) (hvr : vr M vv) (h0 : ¬ vv = 0) : Met l yX8_placesOf wsX8_placesOf (rmz 1 20) (va_Pc [.ref (ad (100 + 4 * (aN (vv - 1))))] (rPre D q (wX q ad κ τ) sz)) (va_Qi (fun (r : Int32) (u : Unit) => r = if vv = 0 then -1 else (if pRow (sA κ 4 (aN (vv - 1))) then sA κ 5 (aN (vv - 1)) else -1)) (fun (u : Unit) tt => rPo D (rA (wX q ad κ τ) sz) (wX q ad κ τ) tt) (rA (wX q ad κ τ) sz)) 0 0 (rA (wX q ad κ τ) sz) := by
  have hB_v := vr_at hvr hI.m60 h0
  have hM_v : (aN (vv - 1)) < aN (sI κ 2) := by rw [hI.mN]; exact hB_v.2.1
  have h6_v : (aN (vv - 1)) < 60 := Nat.lt_of_lt_of_le hB_v.2.1 hI.m60
  have hl_v : (wX q ad κ τ).2.1 (100 + 4 * (aN (vv - 1))) := thl hM_v
  have hc_v : (wX q ad κ τ).2.2 (100 + 4 * (aN (vv - 1))) = .inr (6, fsT ad κ (aN (vv - 1))) := thc h6_v
  have hT_v := hI.i4 _ hB_v.2.1
  have hk_v : vp_in (sA κ 4 (aN (vv - 1))) 16 ∧ vp_in (sA κ 5 (aN (vv - 1))) 13 := ⟨hT_v.1, hT_v.2.1⟩
  refine r_start (cc := cX8_placesOf) (maxL := 1) (ret := (some .int)) (by decide) rfl (Nat.le_of_ble_eq_true rfl) ?_
  intro p e s m below meth c ls hC hr hlk hnm hsz hw hl
  have hx := hC.1
  have hb := hC.2.1
  have hl : lv_has ls 1 [(0, .ref (ad (100 + 4 * (aN (vv - 1)))))] := hl
  refine lv_aload_n hx hb dX8_placesOf_0 rfl (lv_at hl 0 rfl) ?_
  refine lv_ifnull hx hb dX8_placesOf_1 ?_
  refine lv_aload_n hx hb dX8_placesOf_4 rfl (lv_at hl 0 rfl) ?_
  refine r_ki hw (r_runV (rest := []) hC hw (100 + 4 * (aN (vv - 1))) (c_X6_isRow l _ _ (100 + 4 * (aN (vv - 1))) hl_v hc_v) rk6 hl_v hc_v 0 gX8_placesOf_X6_isRow rfl rfl rfl (by decide +kernel) ⟨Nat.le_of_ble_eq_true rfl, Nat.le_of_ble_eq_true rfl⟩ rfl hl.1 rfl (Nat.le_of_ble_eq_true rfl) dX8_placesOf_5 ⟨Nat.le_of_ble_eq_true rfl, Nat.le_of_ble_eq_true rfl⟩) (fun r_2 u_3 H locs h_1 hw => ?_)
  by_cases c_4 : pRow (sA κ 4 (aN (vv - 1)))
  · rw [if_pos c_4] at h_1
    subst h_1
    refine lv_if_ne (tgt := 15) hx hb dX8_placesOf_8 (by decide) (fun _ => ?_) (fun c_ => absurd c_ (by decide))
    refine lv_aload_n hx hb dX8_placesOf_15 rfl (lv_at hl 0 rfl) ?_
    refine r_get hC hw rk6 in_X8_placesOf_6 (100 + 4 * (aN (vv - 1))) hl_v hc_v 1 (by decide) lk_X8_placesOf_168 (v := .int (sA κ 5 (aN (vv - 1)))) rfl dX8_placesOf_16 ?_
    exact r_iret hC hr hlk hw () rfl ((if_neg h0).trans (if_pos c_4)).symm (Nat.le_of_ble_eq_true rfl) (Nat.le_of_ble_eq_true rfl) dX8_placesOf_19
  · rw [if_neg c_4] at h_1
    subst h_1
    refine lv_if_ne (tgt := 15) hx hb dX8_placesOf_8 (by decide) (fun c_ => absurd (by decide) c_) (fun _ => ?_)
    refine lv_iconst (v := (-1)) hx hb dX8_placesOf_11 (by decide) ?_
    refine lv_goto (tgt := 19) hx hb dX8_placesOf_12 (by decide) ?_
    exact r_iret hC hr hlk hw () rfl ((if_neg h0).trans (if_neg c_4)).symm (Nat.le_of_ble_eq_true rfl) (Nat.le_of_ble_eq_true rfl) dX8_placesOf_19

theorem c_X8_placesOf (l : Launch) {D : va_G} {q : Nat → ClassId} {ad : Nat → Nat} {κ : KS} {τ : TAU} (sz : Nat) {B M : Nat} {th : Int32} (hI : INV B M κ th) (vv : Int32) (hvr : vr M vv) : Met l yX8_placesOf wsX8_placesOf (rmz 1 20) (va_Pc [va_rf ((rT vv).map ad)] (rPre D q (wX q ad κ τ) sz)) (va_Qi (fun (r : Int32) (u : Unit) => r = if vv = 0 then -1 else (if pRow (sA κ 4 (aN (vv - 1))) then sA κ 5 (aN (vv - 1)) else -1)) (fun (u : Unit) tt => rPo D (rA (wX q ad κ τ) sz) (wX q ad κ τ) tt) (rA (wX q ad κ τ) sz)) 0 0 (rA (wX q ad κ τ) sz) := by
  by_cases h0 : vv = 0
  · rw [rT0 h0]; exact c_X8_placesOfN l sz vv h0
  · rw [rT1 h0]; exact c_X8_placesOfT l sz hI vv hvr h0

theorem has8 (r0 : Int32) : (if 0 ≤ r0 then (if nI 8 ≤ r0 then (0 : Int32) else 1) else 0) = if pIn r0 0 7 then 1 else 0 := by
  have z := gN_8 (f := fun _ => (1 : Int32)) (z := 0) r0
  exact z
set_option maxHeartbeats 4000000 in
set_option maxRecDepth 100000 in
theorem c_X8_word (l : Launch) {D : va_G} {q : Nat → ClassId} {ad : Nat → Nat} {κ : KS} {τ : TAU} (sz : Nat) {B M : Nat} {th : Int32} (hI : INV B M κ th) (r0 : Int32) : Met l yX8_word wsX8_word (rmz 1 21) (va_Pc [.ref (ad 0), .int r0] (rPre D q (wX q ad κ τ) sz)) (va_Qi (fun (r : Int32) (u : Unit) => r = if pIn r0 0 7 then sA κ 2 (aN r0) else 0) (fun (u : Unit) tt => rPo D (rA (wX q ad κ τ) sz) (wX q ad κ τ) tt) (rA (wX q ad κ τ) sz)) 0 0 (rA (wX q ad κ τ) sz) := by
  refine r_start (cc := cX8_word) (maxL := 2) (ret := (some .int)) (by decide) rfl (Nat.le_of_ble_eq_true rfl) ?_
  intro p e s m below meth c ls hC hr hlk hnm hsz hw hl
  have hx := hC.1
  have hb := hC.2.1
  have hl : lv_has ls 2 [(0, .ref (ad 0)), (1, .int r0)] := hl
  refine lv_aload_n hx hb dX8_word_0 rfl (lv_at hl 0 rfl) ?_
  refine r_get hC hw rk8 in_X8_word_8 0 (wXl 0 (by decide)) wXc0 1 (by decide) lk_X8_word_19 (v := .ref (ad 2)) rfl dX8_word_1 ?_
  refine lv_iload_n hx hb dX8_word_4 rfl (lv_at hl 1 rfl) ?_
  refine r_ki hw (r_runV (rest := []) hC hw 2 (c_X3_getWord l _ _ 2 8 r0 (wXl 2 (by decide)) wXc2 (wXl 8 (by decide)) wXc8) rk3 (wXl 2 (by decide)) wXc2 1 gX8_word_X3_getWord rfl rfl rfl (by decide +kernel) ⟨Nat.le_of_ble_eq_true rfl, Nat.le_of_ble_eq_true rfl⟩ rfl hl.1 rfl (Nat.le_of_ble_eq_true rfl) dX8_word_5 ⟨Nat.le_of_ble_eq_true rfl, Nat.le_of_ble_eq_true rfl⟩) (fun r_2 u_3 H locs h_1 hw => ?_)
  rw [gN_8] at h_1
  subst h_1
  exact r_iret hC hr hlk hw () rfl rfl (Nat.le_of_ble_eq_true rfl) (Nat.le_of_ble_eq_true rfl) dX8_word_8

set_option maxHeartbeats 4000000 in
set_option maxRecDepth 100000 in
theorem c_X8_wide (l : Launch) {D : va_G} {q : Nat → ClassId} {ad : Nat → Nat} {κ : KS} {τ : TAU} (sz : Nat) {B M : Nat} {th : Int32} (hI : INV B M κ th) (r0 : Int32) : Met l yX8_wide wsX8_wide (rmz 1 21) (va_Pc [.ref (ad 0), .int r0] (rPre D q (wX q ad κ τ) sz)) (va_Ql (fun (r : Int64) (u : Unit) => r = if pIn r0 0 3 then sJ κ 0 (aN r0) else 0) (fun (u : Unit) tt => rPo D (rA (wX q ad κ τ) sz) (wX q ad κ τ) tt) (rA (wX q ad κ τ) sz)) 0 0 (rA (wX q ad κ τ) sz) := by
  refine r_start (cc := cX8_wide) (maxL := 2) (ret := (some .long)) (by decide) rfl (Nat.le_of_ble_eq_true rfl) ?_
  intro p e s m below meth c ls hC hr hlk hnm hsz hw hl
  have hx := hC.1
  have hb := hC.2.1
  have hl : lv_has ls 2 [(0, .ref (ad 0)), (1, .int r0)] := hl
  refine lv_aload_n hx hb dX8_wide_0 rfl (lv_at hl 0 rfl) ?_
  refine r_get hC hw rk8 in_X8_wide_8 0 (wXl 0 (by decide)) wXc0 1 (by decide) lk_X8_wide_19 (v := .ref (ad 2)) rfl dX8_wide_1 ?_
  refine lv_iload_n hx hb dX8_wide_4 rfl (lv_at hl 1 rfl) ?_
  refine r_kl hw (r_runV (rest := []) hC hw 2 (c_X3_getLong l _ _ 2 9 r0 (wXl 2 (by decide)) wXc2 (wXl 9 (by decide)) wXc9) rk3 (wXl 2 (by decide)) wXc2 1 gX8_wide_X3_getLong rfl rfl rfl (by decide +kernel) ⟨Nat.le_of_ble_eq_true rfl, Nat.le_of_ble_eq_true rfl⟩ rfl hl.1 rfl (Nat.le_of_ble_eq_true rfl) dX8_wide_5 ⟨Nat.le_of_ble_eq_true rfl, Nat.le_of_ble_eq_true rfl⟩) (fun r_2 u_3 H locs h_1 hw => ?_)
  rw [gN_4] at h_1
  subst h_1
  exact r_lret hC hr hlk hw () rfl rfl (Nat.le_of_ble_eq_true rfl) (Nat.le_of_ble_eq_true rfl) dX8_wide_8

set_option maxHeartbeats 4000000 in
set_option maxRecDepth 100000 in
theorem c_X8_real (l : Launch) {D : va_G} {q : Nat → ClassId} {ad : Nat → Nat} {κ : KS} {τ : TAU} (sz : Nat) {B M : Nat} {th : Int32} (hI : INV B M κ th) (r0 : Int32) : Met l yX8_real wsX8_real (rmz 1 21) (va_Pc [.ref (ad 0), .int r0] (rPre D q (wX q ad κ τ) sz)) (va_Qd (fun (r : UInt64) (u : Unit) => r = if pIn r0 0 3 then sD κ 0 (aN r0) else FP.dconst0) (fun (u : Unit) tt => rPo D (rA (wX q ad κ τ) sz) (wX q ad κ τ) tt) (rA (wX q ad κ τ) sz)) 0 0 (rA (wX q ad κ τ) sz) := by
  refine r_start (cc := cX8_real) (maxL := 2) (ret := (some .double)) (by decide) rfl (Nat.le_of_ble_eq_true rfl) ?_
  intro p e s m below meth c ls hC hr hlk hnm hsz hw hl
  have hx := hC.1
  have hb := hC.2.1
  have hl : lv_has ls 2 [(0, .ref (ad 0)), (1, .int r0)] := hl
  refine lv_aload_n hx hb dX8_real_0 rfl (lv_at hl 0 rfl) ?_
  refine r_get hC hw rk8 in_X8_real_8 0 (wXl 0 (by decide)) wXc0 1 (by decide) lk_X8_real_19 (v := .ref (ad 2)) rfl dX8_real_1 ?_
  refine lv_iload_n hx hb dX8_real_4 rfl (lv_at hl 1 rfl) ?_
  refine r_kd hw (r_runV (rest := []) hC hw 2 (c_X3_getDouble l _ _ 2 11 r0 (wXl 2 (by decide)) wXc2 (wXl 11 (by decide)) wXc11) rk3 (wXl 2 (by decide)) wXc2 1 gX8_real_X3_getDouble rfl rfl rfl (by decide +kernel) ⟨Nat.le_of_ble_eq_true rfl, Nat.le_of_ble_eq_true rfl⟩ rfl hl.1 rfl (Nat.le_of_ble_eq_true rfl) dX8_real_5 ⟨Nat.le_of_ble_eq_true rfl, Nat.le_of_ble_eq_true rfl⟩) (fun r_2 u_3 H locs h_1 hw => ?_)
  rw [gN_4] at h_1
  subst h_1
  exact r_dret hC hr hlk hw () rfl rfl (Nat.le_of_ble_eq_true rfl) (Nat.le_of_ble_eq_true rfl) dX8_real_8

theorem f2d_if (P : Prop) [Decidable P] (x : UInt32) : FP.f2d (if P then x else FP.fconst0) = if P then FP.f2d x else FP.dconst0 := by
  by_cases h : P
  · rw [if_pos h, if_pos h]
  · rw [if_neg h, if_neg h]; decide +kernel
theorem ffB_if {P : Prop} [Decidable P] {x : UInt32} (hx : ffB x) : ffB (if P then x else FP.fconst0) := by
  split
  · exact hx
  · exact ffB_0
set_option maxHeartbeats 4000000 in
set_option maxRecDepth 100000 in
theorem c_X8_single (l : Launch) {D : va_G} {q : Nat → ClassId} {ad : Nat → Nat} {κ : KS} {τ : TAU} (sz : Nat) {B M : Nat} {th : Int32} (hI : INV B M κ th) (r0 : Int32) : Met l yX8_single wsX8_single (rmz 1 21) (va_Pc [.ref (ad 0), .int r0] (rPre D q (wX q ad κ τ) sz)) (va_Qd (fun (r : UInt64) (u : Unit) => r = if pIn r0 0 3 then FP.f2d (sF κ (aN r0)) else FP.dconst0) (fun (u : Unit) tt => rPo D (rA (wX q ad κ τ) sz) (wX q ad κ τ) tt) (rA (wX q ad κ τ) sz)) 0 0 (rA (wX q ad κ τ) sz) := by
  refine r_start (cc := cX8_single) (maxL := 2) (ret := (some .double)) (by decide) rfl (Nat.le_of_ble_eq_true rfl) ?_
  intro p e s m below meth c ls hC hr hlk hnm hsz hw hl
  have hx := hC.1
  have hb := hC.2.1
  have hl : lv_has ls 2 [(0, .ref (ad 0)), (1, .int r0)] := hl
  refine lv_aload_n hx hb dX8_single_0 rfl (lv_at hl 0 rfl) ?_
  refine r_get hC hw rk8 in_X8_single_8 0 (wXl 0 (by decide)) wXc0 1 (by decide) lk_X8_single_19 (v := .ref (ad 2)) rfl dX8_single_1 ?_
  refine lv_iload_n hx hb dX8_single_4 rfl (lv_at hl 1 rfl) ?_
  refine r_kf hw (r_runV (rest := []) hC hw 2 (c_X3_getSingle l _ _ 2 10 r0 (wXl 2 (by decide)) wXc2 (wXl 10 (by decide)) wXc10) rk3 (wXl 2 (by decide)) wXc2 1 gX8_single_X3_getSingle rfl rfl rfl (by decide +kernel) ⟨Nat.le_of_ble_eq_true rfl, Nat.le_of_ble_eq_true rfl⟩ rfl hl.1 rfl (Nat.le_of_ble_eq_true rfl) dX8_single_5 ⟨Nat.le_of_ble_eq_true rfl, Nat.le_of_ble_eq_true rfl⟩) (fun r_2 u_3 H locs h_1 hw => ?_)
  rw [gN_4] at h_1
  subst h_1
  refine lv_f2d hx hb dX8_single_8 (fdB_nn (f2d_B (ffB_if (hI.i5.1 _)))) ?_
  exact r_dret hC hr hlk hw () rfl (f2d_if _ _) (Nat.le_of_ble_eq_true rfl) (Nat.le_of_ble_eq_true rfl) dX8_single_9

set_option maxHeartbeats 4000000 in
set_option maxRecDepth 100000 in
theorem c_X8_kind (l : Launch) {D : va_G} {q : Nat → ClassId} {ad : Nat → Nat} {κ : KS} {τ : TAU} (sz : Nat) {B M : Nat} {th : Int32} (hI : INV B M κ th) (r0 : Int32) : Met l yX8_kind wsX8_kind (rmz 1 21) (va_Pc [.ref (ad 0), .int r0] (rPre D q (wX q ad κ τ) sz)) (va_Qi (fun (r : Int32) (u : Unit) => r = if pIn r0 0 7 then kdR κ (sA κ 3 (aN r0)) else -2) (fun (u : Unit) tt => rPo D (rA (wX q ad κ τ) sz) (wX q ad κ τ) tt) (rA (wX q ad κ τ) sz)) 0 0 (rA (wX q ad κ τ) sz) := by
  refine r_start (cc := cX8_kind) (maxL := 2) (ret := (some .int)) (by decide) rfl (Nat.le_of_ble_eq_true rfl) ?_
  intro p e s m below meth c ls hC hr hlk hnm hsz hw hl
  have hx := hC.1
  have hb := hC.2.1
  have hl : lv_has ls 2 [(0, .ref (ad 0)), (1, .int r0)] := hl
  refine lv_aload_n hx hb dX8_kind_0 rfl (lv_at hl 0 rfl) ?_
  refine r_get hC hw rk8 in_X8_kind_8 0 (wXl 0 (by decide)) wXc0 1 (by decide) lk_X8_kind_19 (v := .ref (ad 2)) rfl dX8_kind_1 ?_
  refine lv_iload_n hx hb dX8_kind_4 rfl (lv_at hl 1 rfl) ?_
  refine r_ki hw (r_runV (rest := []) hC hw 2 (c_X3_hasThing l _ _ 2 12 r0 (wXl 2 (by decide)) wXc2 (wXl 12 (by decide)) wXc12) rk3 (wXl 2 (by decide)) wXc2 1 gX8_kind_X3_hasThing rfl rfl rfl (by decide +kernel) ⟨Nat.le_of_ble_eq_true rfl, Nat.le_of_ble_eq_true rfl⟩ rfl hl.1 rfl (Nat.le_of_ble_eq_true rfl) dX8_kind_5 ⟨Nat.le_of_ble_eq_true rfl, Nat.le_of_ble_eq_true rfl⟩) (fun r_2 u_3 H locs h_1 hw => ?_)
  rw [has8] at h_1
  by_cases c_4 : pIn r0 0 7
  · rw [if_pos c_4] at h_1
    subst h_1
    refine lv_if_eq (tgt := 25) hx hb dX8_kind_8 (by decide) (fun c_ => absurd c_ (by decide)) (fun _ => ?_)
    refine lv_aload_n hx hb dX8_kind_11 rfl (lv_at hl 0 rfl) ?_
    refine r_get hC hw rk8 in_X8_kind_8 0 (wXl 0 (by decide)) wXc0 1 (by decide) lk_X8_kind_19 (v := .ref (ad 2)) rfl dX8_kind_12 ?_
    refine lv_iload_n hx hb dX8_kind_15 rfl (lv_at hl 1 rfl) ?_
    refine r_kq hw (r_runV (rest := []) hC hw 2 (c_X3_getThing l _ _ 2 12 r0 (wXl 2 (by decide)) wXc2 (wXl 12 (by decide)) wXc12) rk3 (wXl 2 (by decide)) wXc2 1 gX8_kind_X3_getThing rfl rfl rfl (by decide +kernel) ⟨Nat.le_of_ble_eq_true rfl, Nat.le_of_ble_eq_true rfl⟩ rfl hl.1 rfl (Nat.le_of_ble_eq_true rfl) dX8_kind_16 ⟨Nat.le_of_ble_eq_true rfl, Nat.le_of_ble_eq_true rfl⟩) (fun r_6 u_7 H locs h_5 hw => ?_)
    subst h_5
    refine r_topv (y := va_rf ((rT (thV κ r0)).map ad)) (congrArg va_rf (gN_th κ ad r0)) ?_
    refine r_ki hw (r_runS (rest := []) hC hw (c_X8_kindOf (ad := ad) l _ hI (thV κ r0) (hI.thv r0)) 1 gX8_kind_X8_kindOf rfl rfl rfl (by decide +kernel) ⟨Nat.le_of_ble_eq_true rfl, Nat.le_of_ble_eq_true rfl⟩ rfl hl.1 rfl (Nat.le_of_ble_eq_true rfl) dX8_kind_19 ⟨Nat.le_of_ble_eq_true rfl, Nat.le_of_ble_eq_true rfl⟩) (fun r_9 u_10 H locs h_8 hw => ?_)
    subst h_8
    refine lv_goto (tgt := 27) hx hb dX8_kind_22 (by decide) ?_
    exact r_iret hC hr hlk hw () rfl (by rw [if_pos c_4]; unfold thV; rw [if_pos c_4]) (Nat.le_of_ble_eq_true rfl) (Nat.le_of_ble_eq_true rfl) dX8_kind_27
  · rw [if_neg c_4] at h_1
    subst h_1
    refine lv_if_eq (tgt := 25) hx hb dX8_kind_8 (by decide) (fun _ => ?_) (fun c_ => absurd (by decide) c_)
    refine lv_bipush (v := (-2)) hx hb dX8_kind_25 (by decide) ?_
    exact r_iret hC hr hlk hw () rfl (if_neg c_4).symm (Nat.le_of_ble_eq_true rfl) (Nat.le_of_ble_eq_true rfl) dX8_kind_27

theorem sizeF {B M : Nat} {κ : KS} {th : Int32} (hI : INV B M κ th) (r0 : Int32) : (if 0 ≤ (thI κ r0) then (if pRow (sA κ 4 (aN (thI κ r0))) then sA κ 5 (aN (thI κ r0)) else -1) else -1) = if thV κ r0 = 0 then -1 else (if pRow (sA κ 4 (aN (thV κ r0 - 1))) then sA κ 5 (aN (thV κ r0 - 1)) else -1) := by
  rw [thI_V]
  by_cases h : thV κ r0 = 0
  · rw [if_pos h, if_neg (vr_neg h)]
  · rw [if_neg h, if_pos (vr_pos (hI.thv r0) hI.m60 h)]
set_option maxHeartbeats 4000000 in
set_option maxRecDepth 100000 in
theorem c_X8_size (l : Launch) {D : va_G} {q : Nat → ClassId} {ad : Nat → Nat} {κ : KS} {τ : TAU} (sz : Nat) {B M : Nat} {th : Int32} (hI : INV B M κ th) (r0 : Int32) : Met l yX8_size wsX8_size (rmz 2 40) (va_Pc [.ref (ad 0), .int r0] (rPre D q (wX q ad κ τ) sz)) (va_Qi (fun (r : Int32) (u : Unit) => r = if 0 ≤ (thI κ r0) then (if pRow (sA κ 4 (aN (thI κ r0))) then sA κ 5 (aN (thI κ r0)) else -1) else -1) (fun (u : Unit) tt => rPo D (rA (wX q ad κ τ) sz) (wX q ad κ τ) tt) (rA (wX q ad κ τ) sz)) 0 0 (rA (wX q ad κ τ) sz) := by
  refine r_start (cc := cX8_size) (maxL := 2) (ret := (some .int)) (by decide) rfl (Nat.le_of_ble_eq_true rfl) ?_
  intro p e s m below meth c ls hC hr hlk hnm hsz hw hl
  have hx := hC.1
  have hb := hC.2.1
  have hl : lv_has ls 2 [(0, .ref (ad 0)), (1, .int r0)] := hl
  refine lv_aload_n hx hb dX8_size_0 rfl (lv_at hl 0 rfl) ?_
  refine r_get hC hw rk8 in_X8_size_8 0 (wXl 0 (by decide)) wXc0 1 (by decide) lk_X8_size_19 (v := .ref (ad 2)) rfl dX8_size_1 ?_
  refine lv_iload_n hx hb dX8_size_4 rfl (lv_at hl 1 rfl) ?_
  refine r_kq hw (r_runV (rest := []) hC hw 2 (c_X3_getThing l _ _ 2 12 r0 (wXl 2 (by decide)) wXc2 (wXl 12 (by decide)) wXc12) rk3 (wXl 2 (by decide)) wXc2 1 gX8_size_X3_getThing rfl rfl rfl (by decide +kernel) ⟨Nat.le_of_ble_eq_true rfl, Nat.le_of_ble_eq_true rfl⟩ rfl hl.1 rfl (Nat.le_of_ble_eq_true rfl) dX8_size_5 ⟨Nat.le_of_ble_eq_true rfl, Nat.le_of_ble_eq_true rfl⟩) (fun r_2 u_3 H locs h_1 hw => ?_)
  subst h_1
  refine r_topv (y := va_rf ((rT (thV κ r0)).map ad)) (congrArg va_rf (gN_th κ ad r0)) ?_
  refine r_ki hw (r_runS (rest := []) hC hw (c_X8_placesOf (ad := ad) l _ hI (thV κ r0) (hI.thv r0)) 1 gX8_size_X8_placesOf rfl rfl rfl (by decide +kernel) ⟨Nat.le_of_ble_eq_true rfl, Nat.le_of_ble_eq_true rfl⟩ rfl hl.1 rfl (Nat.le_of_ble_eq_true rfl) dX8_size_8 ⟨Nat.le_of_ble_eq_true rfl, Nat.le_of_ble_eq_true rfl⟩) (fun r_5 u_6 H locs h_4 hw => ?_)
  subst h_4
  exact r_iret hC hr hlk hw () rfl (sizeF hI r0).symm (Nat.le_of_ble_eq_true rfl) (Nat.le_of_ble_eq_true rfl) dX8_size_11

