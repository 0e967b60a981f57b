set_option maxHeartbeats 4000000 in
set_option maxRecDepth 100000 in
theorem c_X9_isWrong_0 (l : Launch) {D : va_G} {q : Nat → ClassId} {ad : Nat → Nat} {κ : KS} {t : Nat → Int32} (sz : Nat) (r0 : Int32) (hv : ¬ r0 = 0 → vp_in (r0 - 1) 60) : Met l yX9_isWrong wsX9_isWrong (rmz 2 41) (va_Pc [.ref (ad 0), .int r0, .int 0] (rPre D q (wM q ad κ t) sz)) (va_Qi (fun (r : Int32) (u : Unit) => r = if pWrong κ r0 0 then 1 else 0) (fun (u : Unit) tt => rPo D (rA (wM q ad κ t) sz) (wM q ad κ t) tt) (rA (wM q ad κ t) sz)) 0 0 (rA (wM q ad κ t) sz) := by
  refine r_start (cc := cX9_isWrong) (maxL := 3) (ret := (some .boolean)) (by decide) rfl (Nat.le_of_ble_eq_true rfl) ?_
  intro p e s m below meth c ls hC hr hlk hnm hsz hw hl
  have hx := hC.1
  have hb := hC.2.1
  have hl : lv_has ls 3 [(0, .ref (ad 0)), (1, .int r0), (2, .int 0)] := hl
  refine lv_iload_n hx hb dX9_isWrong_0 rfl (lv_at hl 1 rfl) ?_
  refine lv_if_eq (tgt := 23) hx hb dX9_isWrong_1 (by decide) (fun c_1 => ?_) (fun c_1 => ?_)
  · refine lv_iconst (v := 0) hx hb dX9_isWrong_23 (by decide) ?_
    exact r_zret hC hr (by decide) hlk hw () rfl ((if_neg (fun h => h.1 c_1)).symm) (Nat.le_of_ble_eq_true rfl) (Nat.le_of_ble_eq_true rfl) dX9_isWrong_24
  · refine lv_aload_n hx hb dX9_isWrong_4 rfl (lv_at hl 0 rfl) ?_
    refine r_get hC hw rk9 in_X9_isWrong_9 0 (wMl 0 (by decide)) wM0 9 (by decide) lk_X9_isWrong_34 (v := .ref (ad 8)) rfl dX9_isWrong_5 ?_
    refine lv_iload_n hx hb dX9_isWrong_8 rfl (lv_at hl 1 rfl) ?_
    refine lv_iconst (v := 1) hx hb dX9_isWrong_9 (by decide) ?_
    refine lv_isub hx hb dX9_isWrong_10 ?_
    refine r_iald hC hw 8 (wMl 8 (by decide)) wM8 (hv (by assumption)) dX9_isWrong_11 ?_
    refine lv_iload_n hx hb dX9_isWrong_12 rfl (lv_at hl 2 rfl) ?_
    refine r_ki hw (r_runS (rest := []) hC hw (c_X9_isOf_0 l _ _ (sA κ 4 (aN (r0 - 1)))) 2 gX9_isWrong_X9_isOf rfl rfl rfl (by decide +kernel) ⟨Nat.le_of_ble_eq_true rfl, Nat.le_of_ble_eq_true rfl⟩ rfl hl.1 rfl (Nat.le_of_ble_eq_true rfl) dX9_isWrong_13 ⟨Nat.le_of_ble_eq_true rfl, Nat.le_of_ble_eq_true rfl⟩) (fun r_3 u_4 H locs h_2 hw => ?_)
    by_cases c_5 : pOf (sA κ 4 (aN (r0 - 1))) 0
    · rw [if_pos c_5] at h_2
      subst h_2
      refine lv_if_ne (tgt := 23) hx hb dX9_isWrong_16 (by decide) (fun _ => ?_) (fun c_ => absurd c_ (by decide))
      refine lv_iconst (v := 0) hx hb dX9_isWrong_23 (by decide) ?_
      exact r_zret hC hr (by decide) hlk hw () rfl ((if_neg (fun h => h.2 c_5)).symm) (Nat.le_of_ble_eq_true rfl) (Nat.le_of_ble_eq_true rfl) dX9_isWrong_24
    · rw [if_neg c_5] at h_2
      subst h_2
      refine lv_if_ne (tgt := 23) hx hb dX9_isWrong_16 (by decide) (fun c_ => absurd (by decide) c_) (fun _ => ?_)
      refine lv_iconst (v := 1) hx hb dX9_isWrong_19 (by decide) ?_
      refine lv_goto (tgt := 24) hx hb dX9_isWrong_20 (by decide) ?_
      exact r_zret hC hr (by decide) hlk hw () rfl ((if_pos ⟨c_1, c_5⟩).symm) (Nat.le_of_ble_eq_true rfl) (Nat.le_of_ble_eq_true rfl) dX9_isWrong_24

set_option maxHeartbeats 4000000 in
set_option maxRecDepth 100000 in
theorem c_X9_isWrong_1 (l : Launch) {D : va_G} {q : Nat → ClassId} {ad : Nat → Nat} {κ : KS} {t : Nat → Int32} (sz : Nat) (r0 : Int32) (hv : ¬ r0 = 0 → vp_in (r0 - 1) 60) : Met l yX9_isWrong wsX9_isWrong (rmz 2 41) (va_Pc [.ref (ad 0), .int r0, .int 1] (rPre D q (wM q ad κ t) sz)) (va_Qi (fun (r : Int32) (u : Unit) => r = if pWrong κ r0 1 then 1 else 0) (fun (u : Unit) tt => rPo D (rA (wM q ad κ t) sz) (wM q ad κ t) tt) (rA (wM q ad κ t) sz)) 0 0 (rA (wM q ad κ t) sz) := by
  refine r_start (cc := cX9_isWrong) (maxL := 3) (ret := (some .boolean)) (by decide) rfl (Nat.le_of_ble_eq_true rfl) ?_
  intro p e s m below meth c ls hC hr hlk hnm hsz hw hl
  have hx := hC.1
  have hb := hC.2.1
  have hl : lv_has ls 3 [(0, .ref (ad 0)), (1, .int r0), (2, .int 1)] := hl
  refine lv_iload_n hx hb dX9_isWrong_0 rfl (lv_at hl 1 rfl) ?_
  refine lv_if_eq (tgt := 23) hx hb dX9_isWrong_1 (by decide) (fun c_1 => ?_) (fun c_1 => ?_)
  · refine lv_iconst (v := 0) hx hb dX9_isWrong_23 (by decide) ?_
    exact r_zret hC hr (by decide) hlk hw () rfl ((if_neg (fun h => h.1 c_1)).symm) (Nat.le_of_ble_eq_true rfl) (Nat.le_of_ble_eq_true rfl) dX9_isWrong_24
  · refine lv_aload_n hx hb dX9_isWrong_4 rfl (lv_at hl 0 rfl) ?_
    refine r_get hC hw rk9 in_X9_isWrong_9 0 (wMl 0 (by decide)) wM0 9 (by decide) lk_X9_isWrong_34 (v := .ref (ad 8)) rfl dX9_isWrong_5 ?_
    refine lv_iload_n hx hb dX9_isWrong_8 rfl (lv_at hl 1 rfl) ?_
    refine lv_iconst (v := 1) hx hb dX9_isWrong_9 (by decide) ?_
    refine lv_isub hx hb dX9_isWrong_10 ?_
    refine r_iald hC hw 8 (wMl 8 (by decide)) wM8 (hv (by assumption)) dX9_isWrong_11 ?_
    refine lv_iload_n hx hb dX9_isWrong_12 rfl (lv_at hl 2 rfl) ?_
    refine r_ki hw (r_runS (rest := []) hC hw (c_X9_isOf_1 l _ _ (sA κ 4 (aN (r0 - 1)))) 2 gX9_isWrong_X9_isOf rfl rfl rfl (by decide +kernel) ⟨Nat.le_of_ble_eq_true rfl, Nat.le_of_ble_eq_true rfl⟩ rfl hl.1 rfl (Nat.le_of_ble_eq_true rfl) dX9_isWrong_13 ⟨Nat.le_of_ble_eq_true rfl, Nat.le_of_ble_eq_true rfl⟩) (fun r_3 u_4 H locs h_2 hw => ?_)
    by_cases c_5 : pOf (sA κ 4 (aN (r0 - 1))) 1
    · rw [if_pos c_5] at h_2
      subst h_2
      refine lv_if_ne (tgt := 23) hx hb dX9_isWrong_16 (by decide) (fun _ => ?_) (fun c_ => absurd c_ (by decide))
      refine lv_iconst (v := 0) hx hb dX9_isWrong_23 (by decide) ?_
      exact r_zret hC hr (by decide) hlk hw () rfl ((if_neg (fun h => h.2 c_5)).symm) (Nat.le_of_ble_eq_true rfl) (Nat.le_of_ble_eq_true rfl) dX9_isWrong_24
    · rw [if_neg c_5] at h_2
      subst h_2
      refine lv_if_ne (tgt := 23) hx hb dX9_isWrong_16 (by decide) (fun c_ => absurd (by decide) c_) (fun _ => ?_)
      refine lv_iconst (v := 1) hx hb dX9_isWrong_19 (by decide) ?_
      refine lv_goto (tgt := 24) hx hb dX9_isWrong_20 (by decide) ?_
      exact r_zret hC hr (by decide) hlk hw () rfl ((if_pos ⟨c_1, c_5⟩).symm) (Nat.le_of_ble_eq_true rfl) (Nat.le_of_ble_eq_true rfl) dX9_isWrong_24

set_option maxHeartbeats 4000000 in
set_option maxRecDepth 100000 in
theorem c_X9_isWrong_2 (l : Launch) {D : va_G} {q : Nat → ClassId} {ad : Nat → Nat} {κ : KS} {t : Nat → Int32} (sz : Nat) (r0 : Int32) (hv : ¬ r0 = 0 → vp_in (r0 - 1) 60) : Met l yX9_isWrong wsX9_isWrong (rmz 2 41) (va_Pc [.ref (ad 0), .int r0, .int 2] (rPre D q (wM q ad κ t) sz)) (va_Qi (fun (r : Int32) (u : Unit) => r = if pWrong κ r0 2 then 1 else 0) (fun (u : Unit) tt => rPo D (rA (wM q ad κ t) sz) (wM q ad κ t) tt) (rA (wM q ad κ t) sz)) 0 0 (rA (wM q ad κ t) sz) := by
  refine r_start (cc := cX9_isWrong) (maxL := 3) (ret := (some .boolean)) (by decide) rfl (Nat.le_of_ble_eq_true rfl) ?_
  intro p e s m below meth c ls hC hr hlk hnm hsz hw hl
  have hx := hC.1
  have hb := hC.2.1
  have hl : lv_has ls 3 [(0, .ref (ad 0)), (1, .int r0), (2, .int 2)] := hl
  refine lv_iload_n hx hb dX9_isWrong_0 rfl (lv_at hl 1 rfl) ?_
  refine lv_if_eq (tgt := 23) hx hb dX9_isWrong_1 (by decide) (fun c_1 => ?_) (fun c_1 => ?_)
  · refine lv_iconst (v := 0) hx hb dX9_isWrong_23 (by decide) ?_
    exact r_zret hC hr (by decide) hlk hw () rfl ((if_neg (fun h => h.1 c_1)).symm) (Nat.le_of_ble_eq_true rfl) (Nat.le_of_ble_eq_true rfl) dX9_isWrong_24
  · refine lv_aload_n hx hb dX9_isWrong_4 rfl (lv_at hl 0 rfl) ?_
    refine r_get hC hw rk9 in_X9_isWrong_9 0 (wMl 0 (by decide)) wM0 9 (by decide) lk_X9_isWrong_34 (v := .ref (ad 8)) rfl dX9_isWrong_5 ?_
    refine lv_iload_n hx hb dX9_isWrong_8 rfl (lv_at hl 1 rfl) ?_
    refine lv_iconst (v := 1) hx hb dX9_isWrong_9 (by decide) ?_
    refine lv_isub hx hb dX9_isWrong_10 ?_
    refine r_iald hC hw 8 (wMl 8 (by decide)) wM8 (hv (by assumption)) dX9_isWrong_11 ?_
    refine lv_iload_n hx hb dX9_isWrong_12 rfl (lv_at hl 2 rfl) ?_
    refine r_ki hw (r_runS (rest := []) hC hw (c_X9_isOf_2 l _ _ (sA κ 4 (aN (r0 - 1)))) 2 gX9_isWrong_X9_isOf rfl rfl rfl (by decide +kernel) ⟨Nat.le_of_ble_eq_true rfl, Nat.le_of_ble_eq_true rfl⟩ rfl hl.1 rfl (Nat.le_of_ble_eq_true rfl) dX9_isWrong_13 ⟨Nat.le_of_ble_eq_true rfl, Nat.le_of_ble_eq_true rfl⟩) (fun r_3 u_4 H locs h_2 hw => ?_)
    by_cases c_5 : pOf (sA κ 4 (aN (r0 - 1))) 2
    · rw [if_pos c_5] at h_2
      subst h_2
      refine lv_if_ne (tgt := 23) hx hb dX9_isWrong_16 (by decide) (fun _ => ?_) (fun c_ => absurd c_ (by decide))
      refine lv_iconst (v := 0) hx hb dX9_isWrong_23 (by decide) ?_
      exact r_zret hC hr (by decide) hlk hw () rfl ((if_neg (fun h => h.2 c_5)).symm) (Nat.le_of_ble_eq_true rfl) (Nat.le_of_ble_eq_true rfl) dX9_isWrong_24
    · rw [if_neg c_5] at h_2
      subst h_2
      refine lv_if_ne (tgt := 23) hx hb dX9_isWrong_16 (by decide) (fun c_ => absurd (by decide) c_) (fun _ => ?_)
      refine lv_iconst (v := 1) hx hb dX9_isWrong_19 (by decide) ?_
      refine lv_goto (tgt := 24) hx hb dX9_isWrong_20 (by decide) ?_
      exact r_zret hC hr (by decide) hlk hw () rfl ((if_pos ⟨c_1, c_5⟩).symm) (Nat.le_of_ble_eq_true rfl) (Nat.le_of_ble_eq_true rfl) dX9_isWrong_24

set_option maxHeartbeats 4000000 in
set_option maxRecDepth 100000 in
theorem c_X9_isWrong_3 (l : Launch) {D : va_G} {q : Nat → ClassId} {ad : Nat → Nat} {κ : KS} {t : Nat → Int32} (sz : Nat) (r0 : Int32) (hv : ¬ r0 = 0 → vp_in (r0 - 1) 60) : Met l yX9_isWrong wsX9_isWrong (rmz 2 41) (va_Pc [.ref (ad 0), .int r0, .int 3] (rPre D q (wM q ad κ t) sz)) (va_Qi (fun (r : Int32) (u : Unit) => r = if pWrong κ r0 3 then 1 else 0) (fun (u : Unit) tt => rPo D (rA (wM q ad κ t) sz) (wM q ad κ t) tt) (rA (wM q ad κ t) sz)) 0 0 (rA (wM q ad κ t) sz) := by
  refine r_start (cc := cX9_isWrong) (maxL := 3) (ret := (some .boolean)) (by decide) rfl (Nat.le_of_ble_eq_true rfl) ?_
  intro p e s m below meth c ls hC hr hlk hnm hsz hw hl
  have hx := hC.1
  have hb := hC.2.1
  have hl : lv_has ls 3 [(0, .ref (ad 0)), (1, .int r0), (2, .int 3)] := hl
  refine lv_iload_n hx hb dX9_isWrong_0 rfl (lv_at hl 1 rfl) ?_
  refine lv_if_eq (tgt := 23) hx hb dX9_isWrong_1 (by decide) (fun c_1 => ?_) (fun c_1 => ?_)
  · refine lv_iconst (v := 0) hx hb dX9_isWrong_23 (by decide) ?_
    exact r_zret hC hr (by decide) hlk hw () rfl ((if_neg (fun h => h.1 c_1)).symm) (Nat.le_of_ble_eq_true rfl) (Nat.le_of_ble_eq_true rfl) dX9_isWrong_24
  · refine lv_aload_n hx hb dX9_isWrong_4 rfl (lv_at hl 0 rfl) ?_
    refine r_get hC hw rk9 in_X9_isWrong_9 0 (wMl 0 (by decide)) wM0 9 (by decide) lk_X9_isWrong_34 (v := .ref (ad 8)) rfl dX9_isWrong_5 ?_
    refine lv_iload_n hx hb dX9_isWrong_8 rfl (lv_at hl 1 rfl) ?_
    refine lv_iconst (v := 1) hx hb dX9_isWrong_9 (by decide) ?_
    refine lv_isub hx hb dX9_isWrong_10 ?_
    refine r_iald hC hw 8 (wMl 8 (by decide)) wM8 (hv (by assumption)) dX9_isWrong_11 ?_
    refine lv_iload_n hx hb dX9_isWrong_12 rfl (lv_at hl 2 rfl) ?_
    refine r_ki hw (r_runS (rest := []) hC hw (c_X9_isOf_3 l _ _ (sA κ 4 (aN (r0 - 1)))) 2 gX9_isWrong_X9_isOf rfl rfl rfl (by decide +kernel) ⟨Nat.le_of_ble_eq_true rfl, Nat.le_of_ble_eq_true rfl⟩ rfl hl.1 rfl (Nat.le_of_ble_eq_true rfl) dX9_isWrong_13 ⟨Nat.le_of_ble_eq_true rfl, Nat.le_of_ble_eq_true rfl⟩) (fun r_3 u_4 H locs h_2 hw => ?_)
    by_cases c_5 : pOf (sA κ 4 (aN (r0 - 1))) 3
    · rw [if_pos c_5] at h_2
      subst h_2
      refine lv_if_ne (tgt := 23) hx hb dX9_isWrong_16 (by decide) (fun _ => ?_) (fun c_ => absurd c_ (by decide))
      refine lv_iconst (v := 0) hx hb dX9_isWrong_23 (by decide) ?_
      exact r_zret hC hr (by decide) hlk hw () rfl ((if_neg (fun h => h.2 c_5)).symm) (Nat.le_of_ble_eq_true rfl) (Nat.le_of_ble_eq_true rfl) dX9_isWrong_24
    · rw [if_neg c_5] at h_2
      subst h_2
      refine lv_if_ne (tgt := 23) hx hb dX9_isWrong_16 (by decide) (fun c_ => absurd (by decide) c_) (fun _ => ?_)
      refine lv_iconst (v := 1) hx hb dX9_isWrong_19 (by decide) ?_
      refine lv_goto (tgt := 24) hx hb dX9_isWrong_20 (by decide) ?_
      exact r_zret hC hr (by decide) hlk hw () rfl ((if_pos ⟨c_1, c_5⟩).symm) (Nat.le_of_ble_eq_true rfl) (Nat.le_of_ble_eq_true rfl) dX9_isWrong_24

set_option maxHeartbeats 4000000 in
set_option maxRecDepth 100000 in
theorem c_X9_isWrong_4 (l : Launch) {D : va_G} {q : Nat → ClassId} {ad : Nat → Nat} {κ : KS} {t : Nat → Int32} (sz : Nat) (r0 : Int32) (hv : ¬ r0 = 0 → vp_in (r0 - 1) 60) : Met l yX9_isWrong wsX9_isWrong (rmz 2 41) (va_Pc [.ref (ad 0), .int r0, .int 4] (rPre D q (wM q ad κ t) sz)) (va_Qi (fun (r : Int32) (u : Unit) => r = if pWrong κ r0 4 then 1 else 0) (fun (u : Unit) tt => rPo D (rA (wM q ad κ t) sz) (wM q ad κ t) tt) (rA (wM q ad κ t) sz)) 0 0 (rA (wM q ad κ t) sz) := by
  refine r_start (cc := cX9_isWrong) (maxL := 3) (ret := (some .boolean)) (by decide) rfl (Nat.le_of_ble_eq_true rfl) ?_
  intro p e s m below meth c ls hC hr hlk hnm hsz hw hl
  have hx := hC.1
  have hb := hC.2.1
  have hl : lv_has ls 3 [(0, .ref (ad 0)), (1, .int r0), (2, .int 4)] := hl
  refine lv_iload_n hx hb dX9_isWrong_0 rfl (lv_at hl 1 rfl) ?_
  refine lv_if_eq (tgt := 23) hx hb dX9_isWrong_1 (by decide) (fun c_1 => ?_) (fun c_1 => ?_)
  · refine lv_iconst (v := 0) hx hb dX9_isWrong_23 (by decide) ?_
    exact r_zret hC hr (by decide) hlk hw () rfl ((if_neg (fun h => h.1 c_1)).symm) (Nat.le_of_ble_eq_true rfl) (Nat.le_of_ble_eq_true rfl) dX9_isWrong_24
  · refine lv_aload_n hx hb dX9_isWrong_4 rfl (lv_at hl 0 rfl) ?_
    refine r_get hC hw rk9 in_X9_isWrong_9 0 (wMl 0 (by decide)) wM0 9 (by decide) lk_X9_isWrong_34 (v := .ref (ad 8)) rfl dX9_isWrong_5 ?_
    refine lv_iload_n hx hb dX9_isWrong_8 rfl (lv_at hl 1 rfl) ?_
    refine lv_iconst (v := 1) hx hb dX9_isWrong_9 (by decide) ?_
    refine lv_isub hx hb dX9_isWrong_10 ?_
    refine r_iald hC hw 8 (wMl 8 (by decide)) wM8 (hv (by assumption)) dX9_isWrong_11 ?_
    refine lv_iload_n hx hb dX9_isWrong_12 rfl (lv_at hl 2 rfl) ?_
    refine r_ki hw (r_runS (rest := []) hC hw (c_X9_isOf_4 l _ _ (sA κ 4 (aN (r0 - 1)))) 2 gX9_isWrong_X9_isOf rfl rfl rfl (by decide +kernel) ⟨Nat.le_of_ble_eq_true rfl, Nat.le_of_ble_eq_true rfl⟩ rfl hl.1 rfl (Nat.le_of_ble_eq_true rfl) dX9_isWrong_13 ⟨Nat.le_of_ble_eq_true rfl, Nat.le_of_ble_eq_true rfl⟩) (fun r_3 u_4 H locs h_2 hw => ?_)
    by_cases c_5 : pOf (sA κ 4 (aN (r0 - 1))) 4
    · rw [if_pos c_5] at h_2
      subst h_2
      refine lv_if_ne (tgt := 23) hx hb dX9_isWrong_16 (by decide) (fun _ => ?_) (fun c_ => absurd c_ (by decide))
      refine lv_iconst (v := 0) hx hb dX9_isWrong_23 (by decide) ?_
      exact r_zret hC hr (by decide) hlk hw () rfl ((if_neg (fun h => h.2 c_5)).symm) (Nat.le_of_ble_eq_true rfl) (Nat.le_of_ble_eq_true rfl) dX9_isWrong_24
    · rw [if_neg c_5] at h_2
      subst h_2
      refine lv_if_ne (tgt := 23) hx hb dX9_isWrong_16 (by decide) (fun c_ => absurd (by decide) c_) (fun _ => ?_)
      refine lv_iconst (v := 1) hx hb dX9_isWrong_19 (by decide) ?_
      refine lv_goto (tgt := 24) hx hb dX9_isWrong_20 (by decide) ?_
      exact r_zret hC hr (by decide) hlk hw () rfl ((if_pos ⟨c_1, c_5⟩).symm) (Nat.le_of_ble_eq_true rfl) (Nat.le_of_ble_eq_true rfl) dX9_isWrong_24

set_option maxHeartbeats 4000000 in
set_option maxRecDepth 100000 in
theorem c_X9_isWrong_5 (l : Launch) {D : va_G} {q : Nat → ClassId} {ad : Nat → Nat} {κ : KS} {t : Nat → Int32} (sz : Nat) (r0 : Int32) (hv : ¬ r0 = 0 → vp_in (r0 - 1) 60) : Met l yX9_isWrong wsX9_isWrong (rmz 2 41) (va_Pc [.ref (ad 0), .int r0, .int 5] (rPre D q (wM q ad κ t) sz)) (va_Qi (fun (r : Int32) (u : Unit) => r = if pWrong κ r0 5 then 1 else 0) (fun (u : Unit) tt => rPo D (rA (wM q ad κ t) sz) (wM q ad κ t) tt) (rA (wM q ad κ t) sz)) 0 0 (rA (wM q ad κ t) sz) := by
  refine r_start (cc := cX9_isWrong) (maxL := 3) (ret := (some .boolean)) (by decide) rfl (Nat.le_of_ble_eq_true rfl) ?_
  intro p e s m below meth c ls hC hr hlk hnm hsz hw hl
  have hx := hC.1
  have hb := hC.2.1
  have hl : lv_has ls 3 [(0, .ref (ad 0)), (1, .int r0), (2, .int 5)] := hl
  refine lv_iload_n hx hb dX9_isWrong_0 rfl (lv_at hl 1 rfl) ?_
  refine lv_if_eq (tgt := 23) hx hb dX9_isWrong_1 (by decide) (fun c_1 => ?_) (fun c_1 => ?_)
  · refine lv_iconst (v := 0) hx hb dX9_isWrong_23 (by decide) ?_
    exact r_zret hC hr (by decide) hlk hw () rfl ((if_neg (fun h => h.1 c_1)).symm) (Nat.le_of_ble_eq_true rfl) (Nat.le_of_ble_eq_true rfl) dX9_isWrong_24
  · refine lv_aload_n hx hb dX9_isWrong_4 rfl (lv_at hl 0 rfl) ?_
    refine r_get hC hw rk9 in_X9_isWrong_9 0 (wMl 0 (by decide)) wM0 9 (by decide) lk_X9_isWrong_34 (v := .ref (ad 8)) rfl dX9_isWrong_5 ?_
    refine lv_iload_n hx hb dX9_isWrong_8 rfl (lv_at hl 1 rfl) ?_
    refine lv_iconst (v := 1) hx hb dX9_isWrong_9 (by decide) ?_
    refine lv_isub hx hb dX9_isWrong_10 ?_
    refine r_iald hC hw 8 (wMl 8 (by decide)) wM8 (hv (by assumption)) dX9_isWrong_11 ?_
    refine lv_iload_n hx hb dX9_isWrong_12 rfl (lv_at hl 2 rfl) ?_
    refine r_ki hw (r_runS (rest := []) hC hw (c_X9_isOf_5 l _ _ (sA κ 4 (aN (r0 - 1)))) 2 gX9_isWrong_X9_isOf rfl rfl rfl (by decide +kernel) ⟨Nat.le_of_ble_eq_true rfl, Nat.le_of_ble_eq_true rfl⟩ rfl hl.1 rfl (Nat.le_of_ble_eq_true rfl) dX9_isWrong_13 ⟨Nat.le_of_ble_eq_true rfl, Nat.le_of_ble_eq_true rfl⟩) (fun r_3 u_4 H locs h_2 hw => ?_)
    by_cases c_5 : pOf (sA κ 4 (aN (r0 - 1))) 5
    · rw [if_pos c_5] at h_2
      subst h_2
      refine lv_if_ne (tgt := 23) hx hb dX9_isWrong_16 (by decide) (fun _ => ?_) (fun c_ => absurd c_ (by decide))
      refine lv_iconst (v := 0) hx hb dX9_isWrong_23 (by decide) ?_
      exact r_zret hC hr (by decide) hlk hw () rfl ((if_neg (fun h => h.2 c_5)).symm) (Nat.le_of_ble_eq_true rfl) (Nat.le_of_ble_eq_true rfl) dX9_isWrong_24
    · rw [if_neg c_5] at h_2
      subst h_2
      refine lv_if_ne (tgt := 23) hx hb dX9_isWrong_16 (by decide) (fun c_ => absurd (by decide) c_) (fun _ => ?_)
      refine lv_iconst (v := 1) hx hb dX9_isWrong_19 (by decide) ?_
      refine lv_goto (tgt := 24) hx hb dX9_isWrong_20 (by decide) ?_
      exact r_zret hC hr (by decide) hlk hw () rfl ((if_pos ⟨c_1, c_5⟩).symm) (Nat.le_of_ble_eq_true rfl) (Nat.le_of_ble_eq_true rfl) dX9_isWrong_24

set_option maxHeartbeats 4000000 in
set_option maxRecDepth 100000 in
theorem c_X9_isWrong_6 (l : Launch) {D : va_G} {q : Nat → ClassId} {ad : Nat → Nat} {κ : KS} {t : Nat → Int32} (sz : Nat) (r0 : Int32) (hv : ¬ r0 = 0 → vp_in (r0 - 1) 60) : Met l yX9_isWrong wsX9_isWrong (rmz 2 41) (va_Pc [.ref (ad 0), .int r0, .int 6] (rPre D q (wM q ad κ t) sz)) (va_Qi (fun (r : Int32) (u : Unit) => r = if pWrong κ r0 6 then 1 else 0) (fun (u : Unit) tt => rPo D (rA (wM q ad κ t) sz) (wM q ad κ t) tt) (rA (wM q ad κ t) sz)) 0 0 (rA (wM q ad κ t) sz) := by
  refine r_start (cc := cX9_isWrong) (maxL := 3) (ret := (some .boolean)) (by decide) rfl (Nat.le_of_ble_eq_true rfl) ?_
  intro p e s m below meth c ls hC hr hlk hnm hsz hw hl
  have hx := hC.1
  have hb := hC.2.1
  have hl : lv_has ls 3 [(0, .ref (ad 0)), (1, .int r0), (2, .int 6)] := hl
  refine lv_iload_n hx hb dX9_isWrong_0 rfl (lv_at hl 1 rfl) ?_
  refine lv_if_eq (tgt := 23) hx hb dX9_isWrong_1 (by decide) (fun c_1 => ?_) (fun c_1 => ?_)
  · refine lv_iconst (v := 0) hx hb dX9_isWrong_23 (by decide) ?_
    exact r_zret hC hr (by decide) hlk hw () rfl ((if_neg (fun h => h.1 c_1)).symm) (Nat.le_of_ble_eq_true rfl) (Nat.le_of_ble_eq_true rfl) dX9_isWrong_24
  · refine lv_aload_n hx hb dX9_isWrong_4 rfl (lv_at hl 0 rfl) ?_
    refine r_get hC hw rk9 in_X9_isWrong_9 0 (wMl 0 (by decide)) wM0 9 (by decide) lk_X9_isWrong_34 (v := .ref (ad 8)) rfl dX9_isWrong_5 ?_
    refine lv_iload_n hx hb dX9_isWrong_8 rfl (lv_at hl 1 rfl) ?_
    refine lv_iconst (v := 1) hx hb dX9_isWrong_9 (by decide) ?_
    refine lv_isub hx hb dX9_isWrong_10 ?_
    refine r_iald hC hw 8 (wMl 8 (by decide)) wM8 (hv (by assumption)) dX9_isWrong_11 ?_
    refine lv_iload_n hx hb dX9_isWrong_12 rfl (lv_at hl 2 rfl) ?_
    refine r_ki hw (r_runS (rest := []) hC hw (c_X9_isOf_6 l _ _ (sA κ 4 (aN (r0 - 1)))) 2 gX9_isWrong_X9_isOf rfl rfl rfl (by decide +kernel) ⟨Nat.le_of_ble_eq_true rfl, Nat.le_of_ble_eq_true rfl⟩ rfl hl.1 rfl (Nat.le_of_ble_eq_true rfl) dX9_isWrong_13 ⟨Nat.le_of_ble_eq_true rfl, Nat.le_of_ble_eq_true rfl⟩) (fun r_3 u_4 H locs h_2 hw => ?_)
    by_cases c_5 : pOf (sA κ 4 (aN (r0 - 1))) 6
    · rw [if_pos c_5] at h_2
      subst h_2
      refine lv_if_ne (tgt := 23) hx hb dX9_isWrong_16 (by decide) (fun _ => ?_) (fun c_ => absurd c_ (by decide))
      refine lv_iconst (v := 0) hx hb dX9_isWrong_23 (by decide) ?_
      exact r_zret hC hr (by decide) hlk hw () rfl ((if_neg (fun h => h.2 c_5)).symm) (Nat.le_of_ble_eq_true rfl) (Nat.le_of_ble_eq_true rfl) dX9_isWrong_24
    · rw [if_neg c_5] at h_2
      subst h_2
      refine lv_if_ne (tgt := 23) hx hb dX9_isWrong_16 (by decide) (fun c_ => absurd (by decide) c_) (fun _ => ?_)
      refine lv_iconst (v := 1) hx hb dX9_isWrong_19 (by decide) ?_
      refine lv_goto (tgt := 24) hx hb dX9_isWrong_20 (by decide) ?_
      exact r_zret hC hr (by decide) hlk hw () rfl ((if_pos ⟨c_1, c_5⟩).symm) (Nat.le_of_ble_eq_true rfl) (Nat.le_of_ble_eq_true rfl) dX9_isWrong_24

set_option maxHeartbeats 4000000 in
set_option maxRecDepth 100000 in
theorem c_X9_isWrong_7 (l : Launch) {D : va_G} {q : Nat → ClassId} {ad : Nat → Nat} {κ : KS} {t : Nat → Int32} (sz : Nat) (r0 : Int32) (hv : ¬ r0 = 0 → vp_in (r0 - 1) 60) : Met l yX9_isWrong wsX9_isWrong (rmz 2 41) (va_Pc [.ref (ad 0), .int r0, .int 7] (rPre D q (wM q ad κ t) sz)) (va_Qi (fun (r : Int32) (u : Unit) => r = if pWrong κ r0 7 then 1 else 0) (fun (u : Unit) tt => rPo D (rA (wM q ad κ t) sz) (wM q ad κ t) tt) (rA (wM q ad κ t) sz)) 0 0 (rA (wM q ad κ t) sz) := by
  refine r_start (cc := cX9_isWrong) (maxL := 3) (ret := (some .boolean)) (by decide) rfl (Nat.le_of_ble_eq_true rfl) ?_
  intro p e s m below meth c ls hC hr hlk hnm hsz hw hl
  have hx := hC.1
  have hb := hC.2.1
  have hl : lv_has ls 3 [(0, .ref (ad 0)), (1, .int r0), (2, .int 7)] := hl
  refine lv_iload_n hx hb dX9_isWrong_0 rfl (lv_at hl 1 rfl) ?_
  refine lv_if_eq (tgt := 23) hx hb dX9_isWrong_1 (by decide) (fun c_1 => ?_) (fun c_1 => ?_)
  · refine lv_iconst (v := 0) hx hb dX9_isWrong_23 (by decide) ?_
    exact r_zret hC hr (by decide) hlk hw () rfl ((if_neg (fun h => h.1 c_1)).symm) (Nat.le_of_ble_eq_true rfl) (Nat.le_of_ble_eq_true rfl) dX9_isWrong_24
  · refine lv_aload_n hx hb dX9_isWrong_4 rfl (lv_at hl 0 rfl) ?_
    refine r_get hC hw rk9 in_X9_isWrong_9 0 (wMl 0 (by decide)) wM0 9 (by decide) lk_X9_isWrong_34 (v := .ref (ad 8)) rfl dX9_isWrong_5 ?_
    refine lv_iload_n hx hb dX9_isWrong_8 rfl (lv_at hl 1 rfl) ?_
    refine lv_iconst (v := 1) hx hb dX9_isWrong_9 (by decide) ?_
    refine lv_isub hx hb dX9_isWrong_10 ?_
    refine r_iald hC hw 8 (wMl 8 (by decide)) wM8 (hv (by assumption)) dX9_isWrong_11 ?_
    refine lv_iload_n hx hb dX9_isWrong_12 rfl (lv_at hl 2 rfl) ?_
    refine r_ki hw (r_runS (rest := []) hC hw (c_X9_isOf_7 l _ _ (sA κ 4 (aN (r0 - 1)))) 2 gX9_isWrong_X9_isOf rfl rfl rfl (by decide +kernel) ⟨Nat.le_of_ble_eq_true rfl, Nat.le_of_ble_eq_true rfl⟩ rfl hl.1 rfl (Nat.le_of_ble_eq_true rfl) dX9_isWrong_13 ⟨Nat.le_of_ble_eq_true rfl, Nat.le_of_ble_eq_true rfl⟩) (fun r_3 u_4 H locs h_2 hw => ?_)
    by_cases c_5 : pOf (sA κ 4 (aN (r0 - 1))) 7
    · rw [if_pos c_5] at h_2
      subst h_2
      refine lv_if_ne (tgt := 23) hx hb dX9_isWrong_16 (by decide) (fun _ => ?_) (fun c_ => absurd c_ (by decide))
      refine lv_iconst (v := 0) hx hb dX9_isWrong_23 (by decide) ?_
      exact r_zret hC hr (by decide) hlk hw () rfl ((if_neg (fun h => h.2 c_5)).symm) (Nat.le_of_ble_eq_true rfl) (Nat.le_of_ble_eq_true rfl) dX9_isWrong_24
    · rw [if_neg c_5] at h_2
      subst h_2
      refine lv_if_ne (tgt := 23) hx hb dX9_isWrong_16 (by decide) (fun c_ => absurd (by decide) c_) (fun _ => ?_)
      refine lv_iconst (v := 1) hx hb dX9_isWrong_19 (by decide) ?_
      refine lv_goto (tgt := 24) hx hb dX9_isWrong_20 (by decide) ?_
      exact r_zret hC hr (by decide) hlk hw () rfl ((if_pos ⟨c_1, c_5⟩).symm) (Nat.le_of_ble_eq_true rfl) (Nat.le_of_ble_eq_true rfl) dX9_isWrong_24

set_option maxHeartbeats 4000000 in
set_option maxRecDepth 100000 in
theorem c_X9_isWrong_8 (l : Launch) {D : va_G} {q : Nat → ClassId} {ad : Nat → Nat} {κ : KS} {t : Nat → Int32} (sz : Nat) (r0 : Int32) (hv : ¬ r0 = 0 → vp_in (r0 - 1) 60) : Met l yX9_isWrong wsX9_isWrong (rmz 2 41) (va_Pc [.ref (ad 0), .int r0, .int 8] (rPre D q (wM q ad κ t) sz)) (va_Qi (fun (r : Int32) (u : Unit) => r = if pWrong κ r0 8 then 1 else 0) (fun (u : Unit) tt => rPo D (rA (wM q ad κ t) sz) (wM q ad κ t) tt) (rA (wM q ad κ t) sz)) 0 0 (rA (wM q ad κ t) sz) := by
  refine r_start (cc := cX9_isWrong) (maxL := 3) (ret := (some .boolean)) (by decide) rfl (Nat.le_of_ble_eq_true rfl) ?_
  intro p e s m below meth c ls hC hr hlk hnm hsz hw hl
  have hx := hC.1
  have hb := hC.2.1
  have hl : lv_has ls 3 [(0, .ref (ad 0)), (1, .int r0), (2, .int 8)] := hl
  refine lv_iload_n hx hb dX9_isWrong_0 rfl (lv_at hl 1 rfl) ?_
  refine lv_if_eq (tgt := 23) hx hb dX9_isWrong_1 (by decide) (fun c_1 => ?_) (fun c_1 => ?_)
  · refine lv_iconst (v := 0) hx hb dX9_isWrong_23 (by decide) ?_
    exact r_zret hC hr (by decide) hlk hw () rfl ((if_neg (fun h => h.1 c_1)).symm) (Nat.le_of_ble_eq_true rfl) (Nat.le_of_ble_eq_true rfl) dX9_isWrong_24
  · refine lv_aload_n hx hb dX9_isWrong_4 rfl (lv_at hl 0 rfl) ?_
    refine r_get hC hw rk9 in_X9_isWrong_9 0 (wMl 0 (by decide)) wM0 9 (by decide) lk_X9_isWrong_34 (v := .ref (ad 8)) rfl dX9_isWrong_5 ?_
    refine lv_iload_n hx hb dX9_isWrong_8 rfl (lv_at hl 1 rfl) ?_
    refine lv_iconst (v := 1) hx hb dX9_isWrong_9 (by decide) ?_
    refine lv_isub hx hb dX9_isWrong_10 ?_
    refine r_iald hC hw 8 (wMl 8 (by decide)) wM8 (hv (by assumption)) dX9_isWrong_11 ?_
    refine lv_iload_n hx hb dX9_isWrong_12 rfl (lv_at hl 2 rfl) ?_
    refine r_ki hw (r_runS (rest := []) hC hw (c_X9_isOf_8 l _ _ (sA κ 4 (aN (r0 - 1)))) 2 gX9_isWrong_X9_isOf rfl rfl rfl (by decide +kernel) ⟨Nat.le_of_ble_eq_true rfl, Nat.le_of_ble_eq_true rfl⟩ rfl hl.1 rfl (Nat.le_of_ble_eq_true rfl) dX9_isWrong_13 ⟨Nat.le_of_ble_eq_true rfl, Nat.le_of_ble_eq_true rfl⟩) (fun r_3 u_4 H locs h_2 hw => ?_)
    by_cases c_5 : pOf (sA κ 4 (aN (r0 - 1))) 8
    · rw [if_pos c_5] at h_2
      subst h_2
      refine lv_if_ne (tgt := 23) hx hb dX9_isWrong_16 (by decide) (fun _ => ?_) (fun c_ => absurd c_ (by decide))
      refine lv_iconst (v := 0) hx hb dX9_isWrong_23 (by decide) ?_
      exact r_zret hC hr (by decide) hlk hw () rfl ((if_neg (fun h => h.2 c_5)).symm) (Nat.le_of_ble_eq_true rfl) (Nat.le_of_ble_eq_true rfl) dX9_isWrong_24
    · rw [if_neg c_5] at h_2
      subst h_2
      refine lv_if_ne (tgt := 23) hx hb dX9_isWrong_16 (by decide) (fun c_ => absurd (by decide) c_) (fun _ => ?_)
      refine lv_iconst (v := 1) hx hb dX9_isWrong_19 (by decide) ?_
      refine lv_goto (tgt := 24) hx hb dX9_isWrong_20 (by decide) ?_
      exact r_zret hC hr (by decide) hlk hw () rfl ((if_pos ⟨c_1, c_5⟩).symm) (Nat.le_of_ble_eq_true rfl) (Nat.le_of_ble_eq_true rfl) dX9_isWrong_24

set_option maxHeartbeats 4000000 in
set_option maxRecDepth 100000 in
theorem c_X9_isWrong_9 (l : Launch) {D : va_G} {q : Nat → ClassId} {ad : Nat → Nat} {κ : KS} {t : Nat → Int32} (sz : Nat) (r0 : Int32) (hv : ¬ r0 = 0 → vp_in (r0 - 1) 60) : Met l yX9_isWrong wsX9_isWrong (rmz 2 41) (va_Pc [.ref (ad 0), .int r0, .int 9] (rPre D q (wM q ad κ t) sz)) (va_Qi (fun (r : Int32) (u : Unit) => r = if pWrong κ r0 9 then 1 else 0) (fun (u : Unit) tt => rPo D (rA (wM q ad κ t) sz) (wM q ad κ t) tt) (rA (wM q ad κ t) sz)) 0 0 (rA (wM q ad κ t) sz) := by
  refine r_start (cc := cX9_isWrong) (maxL := 3) (ret := (some .boolean)) (by decide) rfl (Nat.le_of_ble_eq_true rfl) ?_
  intro p e s m below meth c ls hC hr hlk hnm hsz hw hl
  have hx := hC.1
  have hb := hC.2.1
  have hl : lv_has ls 3 [(0, .ref (ad 0)), (1, .int r0), (2, .int 9)] := hl
  refine lv_iload_n hx hb dX9_isWrong_0 rfl (lv_at hl 1 rfl) ?_
  refine lv_if_eq (tgt := 23) hx hb dX9_isWrong_1 (by decide) (fun c_1 => ?_) (fun c_1 => ?_)
  · refine lv_iconst (v := 0) hx hb dX9_isWrong_23 (by decide) ?_
    exact r_zret hC hr (by decide) hlk hw () rfl ((if_neg (fun h => h.1 c_1)).symm) (Nat.le_of_ble_eq_true rfl) (Nat.le_of_ble_eq_true rfl) dX9_isWrong_24
  · refine lv_aload_n hx hb dX9_isWrong_4 rfl (lv_at hl 0 rfl) ?_
    refine r_get hC hw rk9 in_X9_isWrong_9 0 (wMl 0 (by decide)) wM0 9 (by decide) lk_X9_isWrong_34 (v := .ref (ad 8)) rfl dX9_isWrong_5 ?_
    refine lv_iload_n hx hb dX9_isWrong_8 rfl (lv_at hl 1 rfl) ?_
    refine lv_iconst (v := 1) hx hb dX9_isWrong_9 (by decide) ?_
    refine lv_isub hx hb dX9_isWrong_10 ?_
    refine r_iald hC hw 8 (wMl 8 (by decide)) wM8 (hv (by assumption)) dX9_isWrong_11 ?_
    refine lv_iload_n hx hb dX9_isWrong_12 rfl (lv_at hl 2 rfl) ?_
    refine r_ki hw (r_runS (rest := []) hC hw (c_X9_isOf_9 l _ _ (sA κ 4 (aN (r0 - 1)))) 2 gX9_isWrong_X9_isOf rfl rfl rfl (by decide +kernel) ⟨Nat.le_of_ble_eq_true rfl, Nat.le_of_ble_eq_true rfl⟩ rfl hl.1 rfl (Nat.le_of_ble_eq_true rfl) dX9_isWrong_13 ⟨Nat.le_of_ble_eq_true rfl, Nat.le_of_ble_eq_true rfl⟩) (fun r_3 u_4 H locs h_2 hw => ?_)
    by_cases c_5 : pOf (sA κ 4 (aN (r0 - 1))) 9
    · rw [if_pos c_5] at h_2
      subst h_2
      refine lv_if_ne (tgt := 23) hx hb dX9_isWrong_16 (by decide) (fun _ => ?_) (fun c_ => absurd c_ (by decide))
      refine lv_iconst (v := 0) hx hb dX9_isWrong_23 (by decide) ?_
      exact r_zret hC hr (by decide) hlk hw () rfl ((if_neg (fun h => h.2 c_5)).symm) (Nat.le_of_ble_eq_true rfl) (Nat.le_of_ble_eq_true rfl) dX9_isWrong_24
    · rw [if_neg c_5] at h_2
      subst h_2
      refine lv_if_ne (tgt := 23) hx hb dX9_isWrong_16 (by decide) (fun c_ => absurd (by decide) c_) (fun _ => ?_)
      refine lv_iconst (v := 1) hx hb dX9_isWrong_19 (by decide) ?_
      refine lv_goto (tgt := 24) hx hb dX9_isWrong_20 (by decide) ?_
      exact r_zret hC hr (by decide) hlk hw () rfl ((if_pos ⟨c_1, c_5⟩).symm) (Nat.le_of_ble_eq_true rfl) (Nat.le_of_ble_eq_true rfl) dX9_isWrong_24

set_option maxHeartbeats 4000000 in
set_option maxRecDepth 100000 in
theorem c_X9_isWrong_10 (l : Launch) {D : va_G} {q : Nat → ClassId} {ad : Nat → Nat} {κ : KS} {t : Nat → Int32} (sz : Nat) (r0 : Int32) (hv : ¬ r0 = 0 → vp_in (r0 - 1) 60) : Met l yX9_isWrong wsX9_isWrong (rmz 2 41) (va_Pc [.ref (ad 0), .int r0, .int 10] (rPre D q (wM q ad κ t) sz)) (va_Qi (fun (r : Int32) (u : Unit) => r = if pWrong κ r0 10 then 1 else 0) (fun (u : Unit) tt => rPo D (rA (wM q ad κ t) sz) (wM q ad κ t) tt) (rA (wM q ad κ t) sz)) 0 0 (rA (wM q ad κ t) sz) := by
  refine r_start (cc := cX9_isWrong) (maxL := 3) (ret := (some .boolean)) (by decide) rfl (Nat.le_of_ble_eq_true rfl) ?_
  intro p e s m below meth c ls hC hr hlk hnm hsz hw hl
  have hx := hC.1
  have hb := hC.2.1
  have hl : lv_has ls 3 [(0, .ref (ad 0)), (1, .int r0), (2, .int 10)] := hl
  refine lv_iload_n hx hb dX9_isWrong_0 rfl (lv_at hl 1 rfl) ?_
  refine lv_if_eq (tgt := 23) hx hb dX9_isWrong_1 (by decide) (fun c_1 => ?_) (fun c_1 => ?_)
  · refine lv_iconst (v := 0) hx hb dX9_isWrong_23 (by decide) ?_
    exact r_zret hC hr (by decide) hlk hw () rfl ((if_neg (fun h => h.1 c_1)).symm) (Nat.le_of_ble_eq_true rfl) (Nat.le_of_ble_eq_true rfl) dX9_isWrong_24
  · refine lv_aload_n hx hb dX9_isWrong_4 rfl (lv_at hl 0 rfl) ?_
    refine r_get hC hw rk9 in_X9_isWrong_9 0 (wMl 0 (by decide)) wM0 9 (by decide) lk_X9_isWrong_34 (v := .ref (ad 8)) rfl dX9_isWrong_5 ?_
    refine lv_iload_n hx hb dX9_isWrong_8 rfl (lv_at hl 1 rfl) ?_
    refine lv_iconst (v := 1) hx hb dX9_isWrong_9 (by decide) ?_
    refine lv_isub hx hb dX9_isWrong_10 ?_
    refine r_iald hC hw 8 (wMl 8 (by decide)) wM8 (hv (by assumption)) dX9_isWrong_11 ?_
    refine lv_iload_n hx hb dX9_isWrong_12 rfl (lv_at hl 2 rfl) ?_
    refine r_ki hw (r_runS (rest := []) hC hw (c_X9_isOf_10 l _ _ (sA κ 4 (aN (r0 - 1)))) 2 gX9_isWrong_X9_isOf rfl rfl rfl (by decide +kernel) ⟨Nat.le_of_ble_eq_true rfl, Nat.le_of_ble_eq_true rfl⟩ rfl hl.1 rfl (Nat.le_of_ble_eq_true rfl) dX9_isWrong_13 ⟨Nat.le_of_ble_eq_true rfl, Nat.le_of_ble_eq_true rfl⟩) (fun r_3 u_4 H locs h_2 hw => ?_)
    by_cases c_5 : pOf (sA κ 4 (aN (r0 - 1))) 10
    · rw [if_pos c_5] at h_2
      subst h_2
      refine lv_if_ne (tgt := 23) hx hb dX9_isWrong_16 (by decide) (fun _ => ?_) (fun c_ => absurd c_ (by decide))
      refine lv_iconst (v := 0) hx hb dX9_isWrong_23 (by decide) ?_
      exact r_zret hC hr (by decide) hlk hw () rfl ((if_neg (fun h => h.2 c_5)).symm) (Nat.le_of_ble_eq_true rfl) (Nat.le_of_ble_eq_true rfl) dX9_isWrong_24
    · rw [if_neg c_5] at h_2
      subst h_2
      refine lv_if_ne (tgt := 23) hx hb dX9_isWrong_16 (by decide) (fun c_ => absurd (by decide) c_) (fun _ => ?_)
      refine lv_iconst (v := 1) hx hb dX9_isWrong_19 (by decide) ?_
      refine lv_goto (tgt := 24) hx hb dX9_isWrong_20 (by decide) ?_
      exact r_zret hC hr (by decide) hlk hw () rfl ((if_pos ⟨c_1, c_5⟩).symm) (Nat.le_of_ble_eq_true rfl) (Nat.le_of_ble_eq_true rfl) dX9_isWrong_24

set_option maxHeartbeats 4000000 in
set_option maxRecDepth 100000 in
theorem c_X9_isWrong_11 (l : Launch) {D : va_G} {q : Nat → ClassId} {ad : Nat → Nat} {κ : KS} {t : Nat → Int32} (sz : Nat) (r0 : Int32) (hv : ¬ r0 = 0 → vp_in (r0 - 1) 60) : Met l yX9_isWrong wsX9_isWrong (rmz 2 41) (va_Pc [.ref (ad 0), .int r0, .int 11] (rPre D q (wM q ad κ t) sz)) (va_Qi (fun (r : Int32) (u : Unit) => r = if pWrong κ r0 11 then 1 else 0) (fun (u : Unit) tt => rPo D (rA (wM q ad κ t) sz) (wM q ad κ t) tt) (rA (wM q ad κ t) sz)) 0 0 (rA (wM q ad κ t) sz) := by
  refine r_start (cc := cX9_isWrong) (maxL := 3) (ret := (some .boolean)) (by decide) rfl (Nat.le_of_ble_eq_true rfl) ?_
  intro p e s m below meth c ls hC hr hlk hnm hsz hw hl
  have hx := hC.1
  have hb := hC.2.1
  have hl : lv_has ls 3 [(0, .ref (ad 0)), (1, .int r0), (2, .int 11)] := hl
  refine lv_iload_n hx hb dX9_isWrong_0 rfl (lv_at hl 1 rfl) ?_
  refine lv_if_eq (tgt := 23) hx hb dX9_isWrong_1 (by decide) (fun c_1 => ?_) (fun c_1 => ?_)
  · refine lv_iconst (v := 0) hx hb dX9_isWrong_23 (by decide) ?_
    exact r_zret hC hr (by decide) hlk hw () rfl ((if_neg (fun h => h.1 c_1)).symm) (Nat.le_of_ble_eq_true rfl) (Nat.le_of_ble_eq_true rfl) dX9_isWrong_24
  · refine lv_aload_n hx hb dX9_isWrong_4 rfl (lv_at hl 0 rfl) ?_
    refine r_get hC hw rk9 in_X9_isWrong_9 0 (wMl 0 (by decide)) wM0 9 (by decide) lk_X9_isWrong_34 (v := .ref (ad 8)) rfl dX9_isWrong_5 ?_
    refine lv_iload_n hx hb dX9_isWrong_8 rfl (lv_at hl 1 rfl) ?_
    refine lv_iconst (v := 1) hx hb dX9_isWrong_9 (by decide) ?_
    refine lv_isub hx hb dX9_isWrong_10 ?_
    refine r_iald hC hw 8 (wMl 8 (by decide)) wM8 (hv (by assumption)) dX9_isWrong_11 ?_
    refine lv_iload_n hx hb dX9_isWrong_12 rfl (lv_at hl 2 rfl) ?_
    refine r_ki hw (r_runS (rest := []) hC hw (c_X9_isOf_11 l _ _ (sA κ 4 (aN (r0 - 1)))) 2 gX9_isWrong_X9_isOf rfl rfl rfl (by decide +kernel) ⟨Nat.le_of_ble_eq_true rfl, Nat.le_of_ble_eq_true rfl⟩ rfl hl.1 rfl (Nat.le_of_ble_eq_true rfl) dX9_isWrong_13 ⟨Nat.le_of_ble_eq_true rfl, Nat.le_of_ble_eq_true rfl⟩) (fun r_3 u_4 H locs h_2 hw => ?_)
    by_cases c_5 : pOf (sA κ 4 (aN (r0 - 1))) 11
    · rw [if_pos c_5] at h_2
      subst h_2
      refine lv_if_ne (tgt := 23) hx hb dX9_isWrong_16 (by decide) (fun _ => ?_) (fun c_ => absurd c_ (by decide))
      refine lv_iconst (v := 0) hx hb dX9_isWrong_23 (by decide) ?_
      exact r_zret hC hr (by decide) hlk hw () rfl ((if_neg (fun h => h.2 c_5)).symm) (Nat.le_of_ble_eq_true rfl) (Nat.le_of_ble_eq_true rfl) dX9_isWrong_24
    · rw [if_neg c_5] at h_2
      subst h_2
      refine lv_if_ne (tgt := 23) hx hb dX9_isWrong_16 (by decide) (fun c_ => absurd (by decide) c_) (fun _ => ?_)
      refine lv_iconst (v := 1) hx hb dX9_isWrong_19 (by decide) ?_
      refine lv_goto (tgt := 24) hx hb dX9_isWrong_20 (by decide) ?_
      exact r_zret hC hr (by decide) hlk hw () rfl ((if_pos ⟨c_1, c_5⟩).symm) (Nat.le_of_ble_eq_true rfl) (Nat.le_of_ble_eq_true rfl) dX9_isWrong_24

set_option maxHeartbeats 4000000 in
set_option maxRecDepth 100000 in
theorem c_X9_isWrong_12 (l : Launch) {D : va_G} {q : Nat → ClassId} {ad : Nat → Nat} {κ : KS} {t : Nat → Int32} (sz : Nat) (r0 : Int32) (hv : ¬ r0 = 0 → vp_in (r0 - 1) 60) : Met l yX9_isWrong wsX9_isWrong (rmz 2 41) (va_Pc [.ref (ad 0), .int r0, .int 12] (rPre D q (wM q ad κ t) sz)) (va_Qi (fun (r : Int32) (u : Unit) => r = if pWrong κ r0 12 then 1 else 0) (fun (u : Unit) tt => rPo D (rA (wM q ad κ t) sz) (wM q ad κ t) tt) (rA (wM q ad κ t) sz)) 0 0 (rA (wM q ad κ t) sz) := by
  refine r_start (cc := cX9_isWrong) (maxL := 3) (ret := (some .boolean)) (by decide) rfl (Nat.le_of_ble_eq_true rfl) ?_
  intro p e s m below meth c ls hC hr hlk hnm hsz hw hl
  have hx := hC.1
  have hb := hC.2.1
  have hl : lv_has ls 3 [(0, .ref (ad 0)), (1, .int r0), (2, .int 12)] := hl
  refine lv_iload_n hx hb dX9_isWrong_0 rfl (lv_at hl 1 rfl) ?_
  refine lv_if_eq (tgt := 23) hx hb dX9_isWrong_1 (by decide) (fun c_1 => ?_) (fun c_1 => ?_)
  · refine lv_iconst (v := 0) hx hb dX9_isWrong_23 (by decide) ?_
    exact r_zret hC hr (by decide) hlk hw () rfl ((if_neg (fun h => h.1 c_1)).symm) (Nat.le_of_ble_eq_true rfl) (Nat.le_of_ble_eq_true rfl) dX9_isWrong_24
  · refine lv_aload_n hx hb dX9_isWrong_4 rfl (lv_at hl 0 rfl) ?_
    refine r_get hC hw rk9 in_X9_isWrong_9 0 (wMl 0 (by decide)) wM0 9 (by decide) lk_X9_isWrong_34 (v := .ref (ad 8)) rfl dX9_isWrong_5 ?_
    refine lv_iload_n hx hb dX9_isWrong_8 rfl (lv_at hl 1 rfl) ?_
    refine lv_iconst (v := 1) hx hb dX9_isWrong_9 (by decide) ?_
    refine lv_isub hx hb dX9_isWrong_10 ?_
    refine r_iald hC hw 8 (wMl 8 (by decide)) wM8 (hv (by assumption)) dX9_isWrong_11 ?_
    refine lv_iload_n hx hb dX9_isWrong_12 rfl (lv_at hl 2 rfl) ?_
    refine r_ki hw (r_runS (rest := []) hC hw (c_X9_isOf_12 l _ _ (sA κ 4 (aN (r0 - 1)))) 2 gX9_isWrong_X9_isOf rfl rfl rfl (by decide +kernel) ⟨Nat.le_of_ble_eq_true rfl, Nat.le_of_ble_eq_true rfl⟩ rfl hl.1 rfl (Nat.le_of_ble_eq_true rfl) dX9_isWrong_13 ⟨Nat.le_of_ble_eq_true rfl, Nat.le_of_ble_eq_true rfl⟩) (fun r_3 u_4 H locs h_2 hw => ?_)
    by_cases c_5 : pOf (sA κ 4 (aN (r0 - 1))) 12
    · rw [if_pos c_5] at h_2
      subst h_2
      refine lv_if_ne (tgt := 23) hx hb dX9_isWrong_16 (by decide) (fun _ => ?_) (fun c_ => absurd c_ (by decide))
      refine lv_iconst (v := 0) hx hb dX9_isWrong_23 (by decide) ?_
      exact r_zret hC hr (by decide) hlk hw () rfl ((if_neg (fun h => h.2 c_5)).symm) (Nat.le_of_ble_eq_true rfl) (Nat.le_of_ble_eq_true rfl) dX9_isWrong_24
    · rw [if_neg c_5] at h_2
      subst h_2
      refine lv_if_ne (tgt := 23) hx hb dX9_isWrong_16 (by decide) (fun c_ => absurd (by decide) c_) (fun _ => ?_)
      refine lv_iconst (v := 1) hx hb dX9_isWrong_19 (by decide) ?_
      refine lv_goto (tgt := 24) hx hb dX9_isWrong_20 (by decide) ?_
      exact r_zret hC hr (by decide) hlk hw () rfl ((if_pos ⟨c_1, c_5⟩).symm) (Nat.le_of_ble_eq_true rfl) (Nat.le_of_ble_eq_true rfl) dX9_isWrong_24

set_option maxHeartbeats 4000000 in
set_option maxRecDepth 100000 in
theorem c_X9_isWrong_13 (l : Launch) {D : va_G} {q : Nat → ClassId} {ad : Nat → Nat} {κ : KS} {t : Nat → Int32} (sz : Nat) (r0 : Int32) (hv : ¬ r0 = 0 → vp_in (r0 - 1) 60) : Met l yX9_isWrong wsX9_isWrong (rmz 2 41) (va_Pc [.ref (ad 0), .int r0, .int 13] (rPre D q (wM q ad κ t) sz)) (va_Qi (fun (r : Int32) (u : Unit) => r = if pWrong κ r0 13 then 1 else 0) (fun (u : Unit) tt => rPo D (rA (wM q ad κ t) sz) (wM q ad κ t) tt) (rA (wM q ad κ t) sz)) 0 0 (rA (wM q ad κ t) sz) := by
  refine r_start (cc := cX9_isWrong) (maxL := 3) (ret := (some .boolean)) (by decide) rfl (Nat.le_of_ble_eq_true rfl) ?_
  intro p e s m below meth c ls hC hr hlk hnm hsz hw hl
  have hx := hC.1
  have hb := hC.2.1
  have hl : lv_has ls 3 [(0, .ref (ad 0)), (1, .int r0), (2, .int 13)] := hl
  refine lv_iload_n hx hb dX9_isWrong_0 rfl (lv_at hl 1 rfl) ?_
  refine lv_if_eq (tgt := 23) hx hb dX9_isWrong_1 (by decide) (fun c_1 => ?_) (fun c_1 => ?_)
  · refine lv_iconst (v := 0) hx hb dX9_isWrong_23 (by decide) ?_
    exact r_zret hC hr (by decide) hlk hw () rfl ((if_neg (fun h => h.1 c_1)).symm) (Nat.le_of_ble_eq_true rfl) (Nat.le_of_ble_eq_true rfl) dX9_isWrong_24
  · refine lv_aload_n hx hb dX9_isWrong_4 rfl (lv_at hl 0 rfl) ?_
    refine r_get hC hw rk9 in_X9_isWrong_9 0 (wMl 0 (by decide)) wM0 9 (by decide) lk_X9_isWrong_34 (v := .ref (ad 8)) rfl dX9_isWrong_5 ?_
    refine lv_iload_n hx hb dX9_isWrong_8 rfl (lv_at hl 1 rfl) ?_
    refine lv_iconst (v := 1) hx hb dX9_isWrong_9 (by decide) ?_
    refine lv_isub hx hb dX9_isWrong_10 ?_
    refine r_iald hC hw 8 (wMl 8 (by decide)) wM8 (hv (by assumption)) dX9_isWrong_11 ?_
    refine lv_iload_n hx hb dX9_isWrong_12 rfl (lv_at hl 2 rfl) ?_
    refine r_ki hw (r_runS (rest := []) hC hw (c_X9_isOf_13 l _ _ (sA κ 4 (aN (r0 - 1)))) 2 gX9_isWrong_X9_isOf rfl rfl rfl (by decide +kernel) ⟨Nat.le_of_ble_eq_true rfl, Nat.le_of_ble_eq_true rfl⟩ rfl hl.1 rfl (Nat.le_of_ble_eq_true rfl) dX9_isWrong_13 ⟨Nat.le_of_ble_eq_true rfl, Nat.le_of_ble_eq_true rfl⟩) (fun r_3 u_4 H locs h_2 hw => ?_)
    by_cases c_5 : pOf (sA κ 4 (aN (r0 - 1))) 13
    · rw [if_pos c_5] at h_2
      subst h_2
      refine lv_if_ne (tgt := 23) hx hb dX9_isWrong_16 (by decide) (fun _ => ?_) (fun c_ => absurd c_ (by decide))
      refine lv_iconst (v := 0) hx hb dX9_isWrong_23 (by decide) ?_
      exact r_zret hC hr (by decide) hlk hw () rfl ((if_neg (fun h => h.2 c_5)).symm) (Nat.le_of_ble_eq_true rfl) (Nat.le_of_ble_eq_true rfl) dX9_isWrong_24
    · rw [if_neg c_5] at h_2
      subst h_2
      refine lv_if_ne (tgt := 23) hx hb dX9_isWrong_16 (by decide) (fun c_ => absurd (by decide) c_) (fun _ => ?_)
      refine lv_iconst (v := 1) hx hb dX9_isWrong_19 (by decide) ?_
      refine lv_goto (tgt := 24) hx hb dX9_isWrong_20 (by decide) ?_
      exact r_zret hC hr (by decide) hlk hw () rfl ((if_pos ⟨c_1, c_5⟩).symm) (Nat.le_of_ble_eq_true rfl) (Nat.le_of_ble_eq_true rfl) dX9_isWrong_24

set_option maxHeartbeats 4000000 in
set_option maxRecDepth 100000 in
theorem c_X9_isWrong_14 (l : Launch) {D : va_G} {q : Nat → ClassId} {ad : Nat → Nat} {κ : KS} {t : Nat → Int32} (sz : Nat) (r0 : Int32) (hv : ¬ r0 = 0 → vp_in (r0 - 1) 60) : Met l yX9_isWrong wsX9_isWrong (rmz 2 41) (va_Pc [.ref (ad 0), .int r0, .int 14] (rPre D q (wM q ad κ t) sz)) (va_Qi (fun (r : Int32) (u : Unit) => r = if pWrong κ r0 14 then 1 else 0) (fun (u : Unit) tt => rPo D (rA (wM q ad κ t) sz) (wM q ad κ t) tt) (rA (wM q ad κ t) sz)) 0 0 (rA (wM q ad κ t) sz) := by
  refine r_start (cc := cX9_isWrong) (maxL := 3) (ret := (some .boolean)) (by decide) rfl (Nat.le_of_ble_eq_true rfl) ?_
  intro p e s m below meth c ls hC hr hlk hnm hsz hw hl
  have hx := hC.1
  have hb := hC.2.1
  have hl : lv_has ls 3 [(0, .ref (ad 0)), (1, .int r0), (2, .int 14)] := hl
  refine lv_iload_n hx hb dX9_isWrong_0 rfl (lv_at hl 1 rfl) ?_
  refine lv_if_eq (tgt := 23) hx hb dX9_isWrong_1 (by decide) (fun c_1 => ?_) (fun c_1 => ?_)
  · refine lv_iconst (v := 0) hx hb dX9_isWrong_23 (by decide) ?_
    exact r_zret hC hr (by decide) hlk hw () rfl ((if_neg (fun h => h.1 c_1)).symm) (Nat.le_of_ble_eq_true rfl) (Nat.le_of_ble_eq_true rfl) dX9_isWrong_24
  · refine lv_aload_n hx hb dX9_isWrong_4 rfl (lv_at hl 0 rfl) ?_
    refine r_get hC hw rk9 in_X9_isWrong_9 0 (wMl 0 (by decide)) wM0 9 (by decide) lk_X9_isWrong_34 (v := .ref (ad 8)) rfl dX9_isWrong_5 ?_
    refine lv_iload_n hx hb dX9_isWrong_8 rfl (lv_at hl 1 rfl) ?_
    refine lv_iconst (v := 1) hx hb dX9_isWrong_9 (by decide) ?_
    refine lv_isub hx hb dX9_isWrong_10 ?_
    refine r_iald hC hw 8 (wMl 8 (by decide)) wM8 (hv (by assumption)) dX9_isWrong_11 ?_
    refine lv_iload_n hx hb dX9_isWrong_12 rfl (lv_at hl 2 rfl) ?_
    refine r_ki hw (r_runS (rest := []) hC hw (c_X9_isOf_14 l _ _ (sA κ 4 (aN (r0 - 1)))) 2 gX9_isWrong_X9_isOf rfl rfl rfl (by decide +kernel) ⟨Nat.le_of_ble_eq_true rfl, Nat.le_of_ble_eq_true rfl⟩ rfl hl.1 rfl (Nat.le_of_ble_eq_true rfl) dX9_isWrong_13 ⟨Nat.le_of_ble_eq_true rfl, Nat.le_of_ble_eq_true rfl⟩) (fun r_3 u_4 H locs h_2 hw => ?_)
    by_cases c_5 : pOf (sA κ 4 (aN (r0 - 1))) 14
    · rw [if_pos c_5] at h_2
      subst h_2
      refine lv_if_ne (tgt := 23) hx hb dX9_isWrong_16 (by decide) (fun _ => ?_) (fun c_ => absurd c_ (by decide))
      refine lv_iconst (v := 0) hx hb dX9_isWrong_23 (by decide) ?_
      exact r_zret hC hr (by decide) hlk hw () rfl ((if_neg (fun h => h.2 c_5)).symm) (Nat.le_of_ble_eq_true rfl) (Nat.le_of_ble_eq_true rfl) dX9_isWrong_24
    · rw [if_neg c_5] at h_2
      subst h_2
      refine lv_if_ne (tgt := 23) hx hb dX9_isWrong_16 (by decide) (fun c_ => absurd (by decide) c_) (fun _ => ?_)
      refine lv_iconst (v := 1) hx hb dX9_isWrong_19 (by decide) ?_
      refine lv_goto (tgt := 24) hx hb dX9_isWrong_20 (by decide) ?_
      exact r_zret hC hr (by decide) hlk hw () rfl ((if_pos ⟨c_1, c_5⟩).symm) (Nat.le_of_ble_eq_true rfl) (Nat.le_of_ble_eq_true rfl) dX9_isWrong_24

set_option maxHeartbeats 4000000 in
set_option maxRecDepth 100000 in
theorem c_X9_isWrong_15 (l : Launch) {D : va_G} {q : Nat → ClassId} {ad : Nat → Nat} {κ : KS} {t : Nat → Int32} (sz : Nat) (r0 : Int32) (hv : ¬ r0 = 0 → vp_in (r0 - 1) 60) : Met l yX9_isWrong wsX9_isWrong (rmz 2 41) (va_Pc [.ref (ad 0), .int r0, .int 15] (rPre D q (wM q ad κ t) sz)) (va_Qi (fun (r : Int32) (u : Unit) => r = if pWrong κ r0 15 then 1 else 0) (fun (u : Unit) tt => rPo D (rA (wM q ad κ t) sz) (wM q ad κ t) tt) (rA (wM q ad κ t) sz)) 0 0 (rA (wM q ad κ t) sz) := by
  refine r_start (cc := cX9_isWrong) (maxL := 3) (ret := (some .boolean)) (by decide) rfl (Nat.le_of_ble_eq_true rfl) ?_
  intro p e s m below meth c ls hC hr hlk hnm hsz hw hl
  have hx := hC.1
  have hb := hC.2.1
  have hl : lv_has ls 3 [(0, .ref (ad 0)), (1, .int r0), (2, .int 15)] := hl
  refine lv_iload_n hx hb dX9_isWrong_0 rfl (lv_at hl 1 rfl) ?_
  refine lv_if_eq (tgt := 23) hx hb dX9_isWrong_1 (by decide) (fun c_1 => ?_) (fun c_1 => ?_)
  · refine lv_iconst (v := 0) hx hb dX9_isWrong_23 (by decide) ?_
    exact r_zret hC hr (by decide) hlk hw () rfl ((if_neg (fun h => h.1 c_1)).symm) (Nat.le_of_ble_eq_true rfl) (Nat.le_of_ble_eq_true rfl) dX9_isWrong_24
  · refine lv_aload_n hx hb dX9_isWrong_4 rfl (lv_at hl 0 rfl) ?_
    refine r_get hC hw rk9 in_X9_isWrong_9 0 (wMl 0 (by decide)) wM0 9 (by decide) lk_X9_isWrong_34 (v := .ref (ad 8)) rfl dX9_isWrong_5 ?_
    refine lv_iload_n hx hb dX9_isWrong_8 rfl (lv_at hl 1 rfl) ?_
    refine lv_iconst (v := 1) hx hb dX9_isWrong_9 (by decide) ?_
    refine lv_isub hx hb dX9_isWrong_10 ?_
    refine r_iald hC hw 8 (wMl 8 (by decide)) wM8 (hv (by assumption)) dX9_isWrong_11 ?_
    refine lv_iload_n hx hb dX9_isWrong_12 rfl (lv_at hl 2 rfl) ?_
    refine r_ki hw (r_runS (rest := []) hC hw (c_X9_isOf_15 l _ _ (sA κ 4 (aN (r0 - 1)))) 2 gX9_isWrong_X9_isOf rfl rfl rfl (by decide +kernel) ⟨Nat.le_of_ble_eq_true rfl, Nat.le_of_ble_eq_true rfl⟩ rfl hl.1 rfl (Nat.le_of_ble_eq_true rfl) dX9_isWrong_13 ⟨Nat.le_of_ble_eq_true rfl, Nat.le_of_ble_eq_true rfl⟩) (fun r_3 u_4 H locs h_2 hw => ?_)
    by_cases c_5 : pOf (sA κ 4 (aN (r0 - 1))) 15
    · rw [if_pos c_5] at h_2
      subst h_2
      refine lv_if_ne (tgt := 23) hx hb dX9_isWrong_16 (by decide) (fun _ => ?_) (fun c_ => absurd c_ (by decide))
      refine lv_iconst (v := 0) hx hb dX9_isWrong_23 (by decide) ?_
      exact r_zret hC hr (by decide) hlk hw () rfl ((if_neg (fun h => h.2 c_5)).symm) (Nat.le_of_ble_eq_true rfl) (Nat.le_of_ble_eq_true rfl) dX9_isWrong_24
    · rw [if_neg c_5] at h_2
      subst h_2
      refine lv_if_ne (tgt := 23) hx hb dX9_isWrong_16 (by decide) (fun c_ => absurd (by decide) c_) (fun _ => ?_)
      refine lv_iconst (v := 1) hx hb dX9_isWrong_19 (by decide) ?_
      refine lv_goto (tgt := 24) hx hb dX9_isWrong_20 (by decide) ?_
      exact r_zret hC hr (by decide) hlk hw () rfl ((if_pos ⟨c_1, c_5⟩).symm) (Nat.le_of_ble_eq_true rfl) (Nat.le_of_ble_eq_true rfl) dX9_isWrong_24

set_option maxHeartbeats 4000000 in
set_option maxRecDepth 100000 in
theorem c_X9_isWrong_16 (l : Launch) {D : va_G} {q : Nat → ClassId} {ad : Nat → Nat} {κ : KS} {t : Nat → Int32} (sz : Nat) (r0 : Int32) (hv : ¬ r0 = 0 → vp_in (r0 - 1) 60) : Met l yX9_isWrong wsX9_isWrong (rmz 2 41) (va_Pc [.ref (ad 0), .int r0, .int 16] (rPre D q (wM q ad κ t) sz)) (va_Qi (fun (r : Int32) (u : Unit) => r = if pWrong κ r0 16 then 1 else 0) (fun (u : Unit) tt => rPo D (rA (wM q ad κ t) sz) (wM q ad κ t) tt) (rA (wM q ad κ t) sz)) 0 0 (rA (wM q ad κ t) sz) := by
  refine r_start (cc := cX9_isWrong) (maxL := 3) (ret := (some .boolean)) (by decide) rfl (Nat.le_of_ble_eq_true rfl) ?_
  intro p e s m below meth c ls hC hr hlk hnm hsz hw hl
  have hx := hC.1
  have hb := hC.2.1
  have hl : lv_has ls 3 [(0, .ref (ad 0)), (1, .int r0), (2, .int 16)] := hl
  refine lv_iload_n hx hb dX9_isWrong_0 rfl (lv_at hl 1 rfl) ?_
  refine lv_if_eq (tgt := 23) hx hb dX9_isWrong_1 (by decide) (fun c_1 => ?_) (fun c_1 => ?_)
  · refine lv_iconst (v := 0) hx hb dX9_isWrong_23 (by decide) ?_
    exact r_zret hC hr (by decide) hlk hw () rfl ((if_neg (fun h => h.1 c_1)).symm) (Nat.le_of_ble_eq_true rfl) (Nat.le_of_ble_eq_true rfl) dX9_isWrong_24
  · refine lv_aload_n hx hb dX9_isWrong_4 rfl (lv_at hl 0 rfl) ?_
    refine r_get hC hw rk9 in_X9_isWrong_9 0 (wMl 0 (by decide)) wM0 9 (by decide) lk_X9_isWrong_34 (v := .ref (ad 8)) rfl dX9_isWrong_5 ?_
    refine lv_iload_n hx hb dX9_isWrong_8 rfl (lv_at hl 1 rfl) ?_
    refine lv_iconst (v := 1) hx hb dX9_isWrong_9 (by decide) ?_
    refine lv_isub hx hb dX9_isWrong_10 ?_
    refine r_iald hC hw 8 (wMl 8 (by decide)) wM8 (hv (by assumption)) dX9_isWrong_11 ?_
    refine lv_iload_n hx hb dX9_isWrong_12 rfl (lv_at hl 2 rfl) ?_
    refine r_ki hw (r_runS (rest := []) hC hw (c_X9_isOf_16 l _ _ (sA κ 4 (aN (r0 - 1)))) 2 gX9_isWrong_X9_isOf rfl rfl rfl (by decide +kernel) ⟨Nat.le_of_ble_eq_true rfl, Nat.le_of_ble_eq_true rfl⟩ rfl hl.1 rfl (Nat.le_of_ble_eq_true rfl) dX9_isWrong_13 ⟨Nat.le_of_ble_eq_true rfl, Nat.le_of_ble_eq_true rfl⟩) (fun r_3 u_4 H locs h_2 hw => ?_)
    by_cases c_5 : pOf (sA κ 4 (aN (r0 - 1))) 16
    · rw [if_pos c_5] at h_2
      subst h_2
      refine lv_if_ne (tgt := 23) hx hb dX9_isWrong_16 (by decide) (fun _ => ?_) (fun c_ => absurd c_ (by decide))
      refine lv_iconst (v := 0) hx hb dX9_isWrong_23 (by decide) ?_
      exact r_zret hC hr (by decide) hlk hw () rfl ((if_neg (fun h => h.2 c_5)).symm) (Nat.le_of_ble_eq_true rfl) (Nat.le_of_ble_eq_true rfl) dX9_isWrong_24
    · rw [if_neg c_5] at h_2
      subst h_2
      refine lv_if_ne (tgt := 23) hx hb dX9_isWrong_16 (by decide) (fun c_ => absurd (by decide) c_) (fun _ => ?_)
      refine lv_iconst (v := 1) hx hb dX9_isWrong_19 (by decide) ?_
      refine lv_goto (tgt := 24) hx hb dX9_isWrong_20 (by decide) ?_
      exact r_zret hC hr (by decide) hlk hw () rfl ((if_pos ⟨c_1, c_5⟩).symm) (Nat.le_of_ble_eq_true rfl) (Nat.le_of_ble_eq_true rfl) dX9_isWrong_24

set_option maxHeartbeats 4000000 in
set_option maxRecDepth 100000 in
theorem c_X9_whyNotPlace_39 (l : Launch) {D : va_G} {q : Nat → ClassId} {ad : Nat → Nat} {κ : KS} {t : Nat → Int32} (sz : Nat) (hs : okStep 39 (t 0) (t 1) (t 2)) (hW : WFm κ) : Met l yX9_whyNotPlace wsX9_whyNotPlace (rmz 3 63) (va_Pc [.ref (ad 0), .int 39] (rPre D q (wM q ad κ t) sz)) (va_Qi (fun (r : Int32) (u : Unit) => r = why κ 39 (t 0) (t 1) (t 2)) (fun (u : Unit) tt => rPo D (rA (wM q ad κ t) sz) (wM q ad κ t) tt) (rA (wM q ad κ t) sz)) 0 0 (rA (wM q ad κ t) sz) := by
  have hi0 : vp_in (t 0) 8 := hs.1
  have hi1 : vp_in (t 1) 8 := hs.2.1
  have hi2 : vp_in (t 2) 8 := hs.2.2
  refine r_start (cc := cX9_whyNotPlace) (maxL := 7) (ret := (some .int)) (by decide) rfl (Nat.le_of_ble_eq_true rfl) ?_
  intro p e s m below meth c ls hC hr hlk hnm hsz hw hl
  have hx := hC.1
  have hb := hC.2.1
  have hl : lv_has ls 7 [(0, .ref (ad 0)), (1, .int 39)] := hl
  refine lv_iload_n hx hb dX9_whyNotPlace_0 rfl (lv_at hl 1 rfl) ?_
  refine lv_bipush (v := 39) hx hb dX9_whyNotPlace_1 (by decide) ?_
  refine lv_isub hx hb dX9_whyNotPlace_3 ?_
  refine r_topi (x := 39 - 39) (y := 0) (by decide) ?_
  refine lv_bipush (v := 10) hx hb dX9_whyNotPlace_4 (by decide) ?_
  refine lv_irem hx hb dX9_whyNotPlace_6 (by decide) ?_
  refine r_topi (x := 0 - 0 / 10 * 10) (y := 0) (by decide) ?_
  refine lv_istore_n (lv' := [(2, .int 0), (0, .ref (ad 0)), (1, .int 39)]) hx hb dX9_whyNotPlace_7 rfl hl (by decide) rfl (fun ls hl => ?_)
  refine lv_iload_n hx hb dX9_whyNotPlace_8 rfl (lv_at hl 2 rfl) ?_
  refine lv_bipush (v := 49) hx hb dX9_whyNotPlace_9 (by decide) ?_
  refine lv_icmp_lt (tgt := 18) hx hb dX9_whyNotPlace_11 (by decide) (fun _ => ?_) (fun c_ => absurd (by decide) c_)
  refine lv_iconst (v := 0) hx hb dX9_whyNotPlace_18 (by decide) ?_
  refine lv_istore_n (lv' := [(3, .int 0), (2, .int 0), (0, .ref (ad 0)), (1, .int 39)]) hx hb dX9_whyNotPlace_19 rfl hl (by decide) rfl (fun ls hl => ?_)
  refine lv_iload_n hx hb dX9_whyNotPlace_20 rfl (lv_at hl 1 rfl) ?_
  refine lv_bipush (v := 9) hx hb dX9_whyNotPlace_21 (by decide) ?_
  refine lv_icmp_ge (tgt := 30) hx hb dX9_whyNotPlace_23 (by decide) (fun c_ => absurd c_ (by decide)) (fun _ => ?_)
  refine lv_iload_n hx hb dX9_whyNotPlace_26 rfl (lv_at hl 1 rfl) ?_
  refine lv_goto (tgt := 32) hx hb dX9_whyNotPlace_27 (by decide) ?_
  refine lv_istore (lv' := [(4, .int 0), (3, .int 0), (2, .int 0), (0, .ref (ad 0)), (1, .int 39)]) hx hb dX9_whyNotPlace_32 hl (by decide) rfl (fun ls hl => ?_)
  refine lv_aload_n hx hb dX9_whyNotPlace_34 rfl (lv_at hl 3 rfl) ?_
  refine lv_aload_n hx hb dX9_whyNotPlace_35 rfl (lv_at hl 3 rfl) ?_
  refine r_get hC hw rk9 in_X9_whyNotPlace_9 0 (wMl 0 (by decide)) wM0 8 (by decide) lk_X9_whyNotPlace_31 (v := .ref (ad 7)) rfl dX9_whyNotPlace_36 ?_
  refine lv_aload_n hx hb dX9_whyNotPlace_39 rfl (lv_at hl 3 rfl) ?_
  refine r_get hC hw rk9 in_X9_whyNotPlace_9 0 (wMl 0 (by decide)) wM0 31 (by decide) lk_X9_whyNotPlace_126 (v := .int (t 1)) rfl dX9_whyNotPlace_40 ?_
  refine r_iald hC hw 7 (wMl 7 (by decide)) wM7 (by assumption) dX9_whyNotPlace_43 ?_
  refine lv_iload hx hb dX9_whyNotPlace_44 (lv_at hl 0 rfl) ?_
  refine r_ki hw (r_runV (rest := []) hC hw 0 (c_X9_isWrong_0 l _ (sA κ 3 (aN (t 1))) (fun hn => wf_ref hW (by assumption) hn)) rk9 (wMl 0 (by decide)) wM0 2 gX9_whyNotPlace_X9_isWrong rfl rfl rfl (by decide +kernel) ⟨Nat.le_of_ble_eq_true rfl, Nat.le_of_ble_eq_true rfl⟩ rfl hl.1 rfl (Nat.le_of_ble_eq_true rfl) dX9_whyNotPlace_46 ⟨Nat.le_of_ble_eq_true rfl, Nat.le_of_ble_eq_true rfl⟩) (fun r_2 u_3 H locs h_1 hw => ?_)
  by_cases c_4 : pWrong κ (sA κ 3 (aN (t 1))) 0
  · rw [if_pos c_4] at h_1
    subst h_1
    refine lv_if_ne (tgt := 107) hx hb dX9_whyNotPlace_49 (by decide) (fun _ => ?_) (fun c_ => absurd c_ (by decide))
    refine lv_iconst (v := 4) hx hb dX9_whyNotPlace_107 (by decide) ?_
    exact r_iret hC hr hlk hw () rfl (if_pos c_4).symm (Nat.le_of_ble_eq_true rfl) (Nat.le_of_ble_eq_true rfl) dX9_whyNotPlace_108
  · rw [if_neg c_4] at h_1
    subst h_1
    refine lv_if_ne (tgt := 107) hx hb dX9_whyNotPlace_49 (by decide) (fun c_ => absurd (by decide) c_) (fun _ => ?_)
    refine lv_iload_n hx hb dX9_whyNotPlace_52 rfl (lv_at hl 1 rfl) ?_
    refine lv_if_eq (tgt := 80) hx hb dX9_whyNotPlace_53 (by decide) (fun _ => ?_) (fun c_ => absurd (by decide) c_)
    refine lv_iload_n hx hb dX9_whyNotPlace_80 rfl (lv_at hl 1 rfl) ?_
    refine lv_if_eq (tgt := 109) hx hb dX9_whyNotPlace_81 (by decide) (fun _ => ?_) (fun c_ => absurd (by decide) c_)
    refine lv_aload_n hx hb dX9_whyNotPlace_109 rfl (lv_at hl 3 rfl) ?_
    refine r_get hC hw rk9 in_X9_whyNotPlace_9 0 (wMl 0 (by decide)) wM0 8 (by decide) lk_X9_whyNotPlace_31 (v := .ref (ad 7)) rfl dX9_whyNotPlace_110 ?_
    refine lv_aload_n hx hb dX9_whyNotPlace_113 rfl (lv_at hl 3 rfl) ?_
    refine r_get hC hw rk9 in_X9_whyNotPlace_9 0 (wMl 0 (by decide)) wM0 31 (by decide) lk_X9_whyNotPlace_126 (v := .int (t 1)) rfl dX9_whyNotPlace_114 ?_
    refine r_iald hC hw 7 (wMl 7 (by decide)) wM7 (by assumption) dX9_whyNotPlace_117 ?_
    refine lv_if_ne (tgt := 123) hx hb dX9_whyNotPlace_118 (by decide) (fun c_5 => ?_) (fun c_5 => ?_)
    · refine lv_aload_n hx hb dX9_whyNotPlace_123 rfl (lv_at hl 3 rfl) ?_
      refine r_get hC hw rk9 in_X9_whyNotPlace_9 0 (wMl 0 (by decide)) wM0 8 (by decide) lk_X9_whyNotPlace_31 (v := .ref (ad 7)) rfl dX9_whyNotPlace_124 ?_
      refine lv_aload_n hx hb dX9_whyNotPlace_127 rfl (lv_at hl 3 rfl) ?_
      refine r_get hC hw rk9 in_X9_whyNotPlace_9 0 (wMl 0 (by decide)) wM0 31 (by decide) lk_X9_whyNotPlace_126 (v := .int (t 1)) rfl dX9_whyNotPlace_128 ?_
      refine r_iald hC hw 7 (wMl 7 (by decide)) wM7 (by assumption) dX9_whyNotPlace_131 ?_
      refine lv_iconst (v := 1) hx hb dX9_whyNotPlace_132 (by decide) ?_
      refine lv_isub hx hb dX9_whyNotPlace_133 ?_
      refine lv_istore (lv' := [(5, .int ((sA κ 3 (aN (t 1))) - 1)), (4, .int 0), (3, .int 0), (2, .int 0), (0, .ref (ad 0)), (1, .int 39)]) hx hb dX9_whyNotPlace_134 hl (by decide) rfl (fun ls hl => ?_)
      refine lv_aload_n hx hb dX9_whyNotPlace_136 rfl (lv_at hl 4 rfl) ?_
      refine r_get hC hw rk9 in_X9_whyNotPlace_9 0 (wMl 0 (by decide)) wM0 4 (by decide) lk_X9_whyNotPlace_16 (v := .ref (ad 3)) rfl dX9_whyNotPlace_137 ?_
      refine lv_aload_n hx hb dX9_whyNotPlace_140 rfl (lv_at hl 4 rfl) ?_
      refine r_get hC hw rk9 in_X9_whyNotPlace_9 0 (wMl 0 (by decide)) wM0 32 (by decide) lk_X9_whyNotPlace_123 (v := .int (t 2)) rfl dX9_whyNotPlace_141 ?_
      refine r_iald hC hw 3 (wMl 3 (by decide)) wM3 (by assumption) dX9_whyNotPlace_144 ?_
      refine lv_iconst (v := 0) hx hb dX9_whyNotPlace_145 (by decide) ?_
      refine lv_aload_n hx hb dX9_whyNotPlace_146 rfl (lv_at hl 4 rfl) ?_
      refine r_get hC hw rk9 in_X9_whyNotPlace_9 0 (wMl 0 (by decide)) wM0 10 (by decide) lk_X9_whyNotPlace_37 (v := .ref (ad 9)) rfl dX9_whyNotPlace_147 ?_
      refine lv_iload hx hb dX9_whyNotPlace_150 (lv_at hl 0 rfl) ?_
      refine r_iald hC hw 9 (wMl 9 (by decide)) wM9 (wf_ref hW (by assumption) (by assumption)) dX9_whyNotPlace_152 ?_
      refine lv_iconst (v := 1) hx hb dX9_whyNotPlace_153 (by decide) ?_
      refine lv_isub hx hb dX9_whyNotPlace_154 ?_
      refine r_ki hw (r_runS (rest := []) hC hw (c_X9_isIn l _ _ (sA κ 2 (aN (t 2))) 0 ((sA κ 5 (aN ((sA κ 3 (aN (t 1))) - 1))) - 1)) 3 gX9_whyNotPlace_X9_isIn rfl rfl rfl (by decide +kernel) ⟨Nat.le_of_ble_eq_true rfl, Nat.le_of_ble_eq_true rfl⟩ rfl hl.1 rfl (Nat.le_of_ble_eq_true rfl) dX9_whyNotPlace_155 ⟨Nat.le_of_ble_eq_true rfl, Nat.le_of_ble_eq_true rfl⟩) (fun r_7 u_8 H locs h_6 hw => ?_)
      by_cases c_9 : pIn (sA κ 2 (aN (t 2))) 0 ((sA κ 5 (aN ((sA κ 3 (aN (t 1))) - 1))) - 1)
      · rw [if_pos c_9] at h_6
        subst h_6
        refine lv_if_ne (tgt := 163) hx hb dX9_whyNotPlace_158 (by decide) (fun _ => ?_) (fun c_ => absurd c_ (by decide))
        refine lv_iload_n hx hb dX9_whyNotPlace_163 rfl (lv_at hl 2 rfl) ?_
        refine lv_if_eq (tgt := 210) hx hb dX9_whyNotPlace_164 (by decide) (fun _ => ?_) (fun c_ => absurd (by decide) c_)
        refine lv_iconst (v := 0) hx hb dX9_whyNotPlace_210 (by decide) ?_
        refine lv_istore (lv' := [(6, .int 0), (5, .int ((sA κ 3 (aN (t 1))) - 1)), (4, .int 0), (3, .int 0), (2, .int 0), (0, .ref (ad 0)), (1, .int 39)]) hx hb dX9_whyNotPlace_211 hl (by decide) rfl (fun ls hl => ?_)
        refine lv_iload hx hb dX9_whyNotPlace_213 (lv_at hl 0 rfl) ?_
        refine lv_if_eq (tgt := 234) hx hb dX9_whyNotPlace_215 (by decide) (fun _ => ?_) (fun c_ => absurd (by decide) c_)
        refine lv_iconst (v := 0) hx hb dX9_whyNotPlace_234 (by decide) ?_
        exact r_iret hC hr hlk hw () rfl ((if_neg c_4).trans ((if_neg c_5).trans (if_pos c_9))).symm (Nat.le_of_ble_eq_true rfl) (Nat.le_of_ble_eq_true rfl) dX9_whyNotPlace_235
      · rw [if_neg c_9] at h_6
        subst h_6
        refine lv_if_ne (tgt := 163) hx hb dX9_whyNotPlace_158 (by decide) (fun c_ => absurd (by decide) c_) (fun _ => ?_)
        refine lv_iconst (v := 2) hx hb dX9_whyNotPlace_161 (by decide) ?_
        exact r_iret hC hr hlk hw () rfl ((if_neg c_4).trans ((if_neg c_5).trans (if_neg c_9))).symm (Nat.le_of_ble_eq_true rfl) (Nat.le_of_ble_eq_true rfl) dX9_whyNotPlace_162
    · refine lv_iconst (v := 1) hx hb dX9_whyNotPlace_121 (by decide) ?_
      exact r_iret hC hr hlk hw () rfl ((if_neg c_4).trans (if_pos c_5)).symm (Nat.le_of_ble_eq_true rfl) (Nat.le_of_ble_eq_true rfl) dX9_whyNotPlace_122

set_option maxHeartbeats 4000000 in
set_option maxRecDepth 100000 in
theorem c_X9_whyNotPlace_40 (l : Launch) {D : va_G} {q : Nat → ClassId} {ad : Nat → Nat} {κ : KS} {t : Nat → Int32} (sz : Nat) (hs : okStep 40 (t 0) (t 1) (t 2)) (hW : WFm κ) : Met l yX9_whyNotPlace wsX9_whyNotPlace (rmz 3 63) (va_Pc [.ref (ad 0), .int 40] (rPre D q (wM q ad κ t) sz)) (va_Qi (fun (r : Int32) (u : Unit) => r = why κ 40 (t 0) (t 1) (t 2)) (fun (u : Unit) tt => rPo D (rA (wM q ad κ t) sz) (wM q ad κ t) tt) (rA (wM q ad κ t) sz)) 0 0 (rA (wM q ad κ t) sz) := by
  have hi0 : vp_in (t 0) 8 := hs.1
  have hi1 : vp_in (t 1) 8 := hs.2.1
  have hi2 : vp_in (t 2) 8 := hs.2.2
  refine r_start (cc := cX9_whyNotPlace) (maxL := 7) (ret := (some .int)) (by decide) rfl (Nat.le_of_ble_eq_true rfl) ?_
  intro p e s m below meth c ls hC hr hlk hnm hsz hw hl
  have hx := hC.1
  have hb := hC.2.1
  have hl : lv_has ls 7 [(0, .ref (ad 0)), (1, .int 40)] := hl
  refine lv_iload_n hx hb dX9_whyNotPlace_0 rfl (lv_at hl 1 rfl) ?_
  refine lv_bipush (v := 39) hx hb dX9_whyNotPlace_1 (by decide) ?_
  refine lv_isub hx hb dX9_whyNotPlace_3 ?_
  refine r_topi (x := 40 - 39) (y := 1) (by decide) ?_
  refine lv_bipush (v := 10) hx hb dX9_whyNotPlace_4 (by decide) ?_
  refine lv_irem hx hb dX9_whyNotPlace_6 (by decide) ?_
  refine r_topi (x := 1 - 1 / 10 * 10) (y := 1) (by decide) ?_
  refine lv_istore_n (lv' := [(2, .int 1), (0, .ref (ad 0)), (1, .int 40)]) hx hb dX9_whyNotPlace_7 rfl hl (by decide) rfl (fun ls hl => ?_)
  refine lv_iload_n hx hb dX9_whyNotPlace_8 rfl (lv_at hl 2 rfl) ?_
  refine lv_bipush (v := 49) hx hb dX9_whyNotPlace_9 (by decide) ?_
  refine lv_icmp_lt (tgt := 18) hx hb dX9_whyNotPlace_11 (by decide) (fun _ => ?_) (fun c_ => absurd (by decide) c_)
  refine lv_iconst (v := 0) hx hb dX9_whyNotPlace_18 (by decide) ?_
  refine lv_istore_n (lv' := [(3, .int 0), (2, .int 1), (0, .ref (ad 0)), (1, .int 40)]) hx hb dX9_whyNotPlace_19 rfl hl (by decide) rfl (fun ls hl => ?_)
  refine lv_iload_n hx hb dX9_whyNotPlace_20 rfl (lv_at hl 1 rfl) ?_
  refine lv_bipush (v := 9) hx hb dX9_whyNotPlace_21 (by decide) ?_
  refine lv_icmp_ge (tgt := 30) hx hb dX9_whyNotPlace_23 (by decide) (fun c_ => absurd c_ (by decide)) (fun _ => ?_)
  refine lv_iload_n hx hb dX9_whyNotPlace_26 rfl (lv_at hl 1 rfl) ?_
  refine lv_goto (tgt := 32) hx hb dX9_whyNotPlace_27 (by decide) ?_
  refine lv_istore (lv' := [(4, .int 1), (3, .int 0), (2, .int 1), (0, .ref (ad 0)), (1, .int 40)]) hx hb dX9_whyNotPlace_32 hl (by decide) rfl (fun ls hl => ?_)
  refine lv_aload_n hx hb dX9_whyNotPlace_34 rfl (lv_at hl 3 rfl) ?_
  refine lv_aload_n hx hb dX9_whyNotPlace_35 rfl (lv_at hl 3 rfl) ?_
  refine r_get hC hw rk9 in_X9_whyNotPlace_9 0 (wMl 0 (by decide)) wM0 8 (by decide) lk_X9_whyNotPlace_31 (v := .ref (ad 7)) rfl dX9_whyNotPlace_36 ?_
  refine lv_aload_n hx hb dX9_whyNotPlace_39 rfl (lv_at hl 3 rfl) ?_
  refine r_get hC hw rk9 in_X9_whyNotPlace_9 0 (wMl 0 (by decide)) wM0 31 (by decide) lk_X9_whyNotPlace_126 (v := .int (t 1)) rfl dX9_whyNotPlace_40 ?_
  refine r_iald hC hw 7 (wMl 7 (by decide)) wM7 (by assumption) dX9_whyNotPlace_43 ?_
  refine lv_iload hx hb dX9_whyNotPlace_44 (lv_at hl 0 rfl) ?_
  refine r_ki hw (r_runV (rest := []) hC hw 0 (c_X9_isWrong_1 l _ (sA κ 3 (aN (t 1))) (fun hn => wf_ref hW (by assumption) hn)) rk9 (wMl 0 (by decide)) wM0 2 gX9_whyNotPlace_X9_isWrong rfl rfl rfl (by decide +kernel) ⟨Nat.le_of_ble_eq_true rfl, Nat.le_of_ble_eq_true rfl⟩ rfl hl.1 rfl (Nat.le_of_ble_eq_true rfl) dX9_whyNotPlace_46 ⟨Nat.le_of_ble_eq_true rfl, Nat.le_of_ble_eq_true rfl⟩) (fun r_2 u_3 H locs h_1 hw => ?_)
  by_cases c_4 : pWrong κ (sA κ 3 (aN (t 1))) 1
  · rw [if_pos c_4] at h_1
    subst h_1
    refine lv_if_ne (tgt := 107) hx hb dX9_whyNotPlace_49 (by decide) (fun _ => ?_) (fun c_ => absurd c_ (by decide))
    refine lv_iconst (v := 4) hx hb dX9_whyNotPlace_107 (by decide) ?_
    exact r_iret hC hr hlk hw () rfl (if_pos c_4).symm (Nat.le_of_ble_eq_true rfl) (Nat.le_of_ble_eq_true rfl) dX9_whyNotPlace_108
  · rw [if_neg c_4] at h_1
    subst h_1
    refine lv_if_ne (tgt := 107) hx hb dX9_whyNotPlace_49 (by decide) (fun c_ => absurd (by decide) c_) (fun _ => ?_)
    refine lv_iload_n hx hb dX9_whyNotPlace_52 rfl (lv_at hl 1 rfl) ?_
    refine lv_if_eq (tgt := 80) hx hb dX9_whyNotPlace_53 (by decide) (fun _ => ?_) (fun c_ => absurd (by decide) c_)
    refine lv_iload_n hx hb dX9_whyNotPlace_80 rfl (lv_at hl 1 rfl) ?_
    refine lv_if_eq (tgt := 109) hx hb dX9_whyNotPlace_81 (by decide) (fun _ => ?_) (fun c_ => absurd (by decide) c_)
    refine lv_aload_n hx hb dX9_whyNotPlace_109 rfl (lv_at hl 3 rfl) ?_
    refine r_get hC hw rk9 in_X9_whyNotPlace_9 0 (wMl 0 (by decide)) wM0 8 (by decide) lk_X9_whyNotPlace_31 (v := .ref (ad 7)) rfl dX9_whyNotPlace_110 ?_
    refine lv_aload_n hx hb dX9_whyNotPlace_113 rfl (lv_at hl 3 rfl) ?_
    refine r_get hC hw rk9 in_X9_whyNotPlace_9 0 (wMl 0 (by decide)) wM0 31 (by decide) lk_X9_whyNotPlace_126 (v := .int (t 1)) rfl dX9_whyNotPlace_114 ?_
    refine r_iald hC hw 7 (wMl 7 (by decide)) wM7 (by assumption) dX9_whyNotPlace_117 ?_
    refine lv_if_ne (tgt := 123) hx hb dX9_whyNotPlace_118 (by decide) (fun c_5 => ?_) (fun c_5 => ?_)
    · refine lv_aload_n hx hb dX9_whyNotPlace_123 rfl (lv_at hl 3 rfl) ?_
      refine r_get hC hw rk9 in_X9_whyNotPlace_9 0 (wMl 0 (by decide)) wM0 8 (by decide) lk_X9_whyNotPlace_31 (v := .ref (ad 7)) rfl dX9_whyNotPlace_124 ?_
      refine lv_aload_n hx hb dX9_whyNotPlace_127 rfl (lv_at hl 3 rfl) ?_
      refine r_get hC hw rk9 in_X9_whyNotPlace_9 0 (wMl 0 (by decide)) wM0 31 (by decide) lk_X9_whyNotPlace_126 (v := .int (t 1)) rfl dX9_whyNotPlace_128 ?_
      refine r_iald hC hw 7 (wMl 7 (by decide)) wM7 (by assumption) dX9_whyNotPlace_131 ?_
      refine lv_iconst (v := 1) hx hb dX9_whyNotPlace_132 (by decide) ?_
      refine lv_isub hx hb dX9_whyNotPlace_133 ?_
      refine lv_istore (lv' := [(5, .int ((sA κ 3 (aN (t 1))) - 1)), (4, .int 1), (3, .int 0), (2, .int 1), (0, .ref (ad 0)), (1, .int 40)]) hx hb dX9_whyNotPlace_134 hl (by decide) rfl (fun ls hl => ?_)
      refine lv_aload_n hx hb dX9_whyNotPlace_136 rfl (lv_at hl 4 rfl) ?_
      refine r_get hC hw rk9 in_X9_whyNotPlace_9 0 (wMl 0 (by decide)) wM0 4 (by decide) lk_X9_whyNotPlace_16 (v := .ref (ad 3)) rfl dX9_whyNotPlace_137 ?_
      refine lv_aload_n hx hb dX9_whyNotPlace_140 rfl (lv_at hl 4 rfl) ?_
      refine r_get hC hw rk9 in_X9_whyNotPlace_9 0 (wMl 0 (by decide)) wM0 32 (by decide) lk_X9_whyNotPlace_123 (v := .int (t 2)) rfl dX9_whyNotPlace_141 ?_
      refine r_iald hC hw 3 (wMl 3 (by decide)) wM3 (by assumption) dX9_whyNotPlace_144 ?_
      refine lv_iconst (v := 0) hx hb dX9_whyNotPlace_145 (by decide) ?_
      refine lv_aload_n hx hb dX9_whyNotPlace_146 rfl (lv_at hl 4 rfl) ?_
      refine r_get hC hw rk9 in_X9_whyNotPlace_9 0 (wMl 0 (by decide)) wM0 10 (by decide) lk_X9_whyNotPlace_37 (v := .ref (ad 9)) rfl dX9_whyNotPlace_147 ?_
      refine lv_iload hx hb dX9_whyNotPlace_150 (lv_at hl 0 rfl) ?_
      refine r_iald hC hw 9 (wMl 9 (by decide)) wM9 (wf_ref hW (by assumption) (by assumption)) dX9_whyNotPlace_152 ?_
      refine lv_iconst (v := 1) hx hb dX9_whyNotPlace_153 (by decide) ?_
      refine lv_isub hx hb dX9_whyNotPlace_154 ?_
      refine r_ki hw (r_runS (rest := []) hC hw (c_X9_isIn l _ _ (sA κ 2 (aN (t 2))) 0 ((sA κ 5 (aN ((sA κ 3 (aN (t 1))) - 1))) - 1)) 3 gX9_whyNotPlace_X9_isIn rfl rfl rfl (by decide +kernel) ⟨Nat.le_of_ble_eq_true rfl, Nat.le_of_ble_eq_true rfl⟩ rfl hl.1 rfl (Nat.le_of_ble_eq_true rfl) dX9_whyNotPlace_155 ⟨Nat.le_of_ble_eq_true rfl, Nat.le_of_ble_eq_true rfl⟩) (fun r_7 u_8 H locs h_6 hw => ?_)
      by_cases c_9 : pIn (sA κ 2 (aN (t 2))) 0 ((sA κ 5 (aN ((sA κ 3 (aN (t 1))) - 1))) - 1)
      · rw [if_pos c_9] at h_6
        subst h_6
        refine lv_if_ne (tgt := 163) hx hb dX9_whyNotPlace_158 (by decide) (fun _ => ?_) (fun c_ => absurd c_ (by decide))
        refine lv_iload_n hx hb dX9_whyNotPlace_163 rfl (lv_at hl 2 rfl) ?_
        refine lv_if_eq (tgt := 210) hx hb dX9_whyNotPlace_164 (by decide) (fun _ => ?_) (fun c_ => absurd (by decide) c_)
        refine lv_iconst (v := 0) hx hb dX9_whyNotPlace_210 (by decide) ?_
        refine lv_istore (lv' := [(6, .int 0), (5, .int ((sA κ 3 (aN (t 1))) - 1)), (4, .int 1), (3, .int 0), (2, .int 1), (0, .ref (ad 0)), (1, .int 40)]) hx hb dX9_whyNotPlace_211 hl (by decide) rfl (fun ls hl => ?_)
        refine lv_iload hx hb dX9_whyNotPlace_213 (lv_at hl 0 rfl) ?_
        refine lv_if_eq (tgt := 234) hx hb dX9_whyNotPlace_215 (by decide) (fun _ => ?_) (fun c_ => absurd (by decide) c_)
        refine lv_iconst (v := 0) hx hb dX9_whyNotPlace_234 (by decide) ?_
        exact r_iret hC hr hlk hw () rfl ((if_neg c_4).trans ((if_neg c_5).trans (if_pos c_9))).symm (Nat.le_of_ble_eq_true rfl) (Nat.le_of_ble_eq_true rfl) dX9_whyNotPlace_235
      · rw [if_neg c_9] at h_6
        subst h_6
        refine lv_if_ne (tgt := 163) hx hb dX9_whyNotPlace_158 (by decide) (fun c_ => absurd (by decide) c_) (fun _ => ?_)
        refine lv_iconst (v := 2) hx hb dX9_whyNotPlace_161 (by decide) ?_
        exact r_iret hC hr hlk hw () rfl ((if_neg c_4).trans ((if_neg c_5).trans (if_neg c_9))).symm (Nat.le_of_ble_eq_true rfl) (Nat.le_of_ble_eq_true rfl) dX9_whyNotPlace_162
    · refine lv_iconst (v := 1) hx hb dX9_whyNotPlace_121 (by decide) ?_
      exact r_iret hC hr hlk hw () rfl ((if_neg c_4).trans (if_pos c_5)).symm (Nat.le_of_ble_eq_true rfl) (Nat.le_of_ble_eq_true rfl) dX9_whyNotPlace_122

set_option maxHeartbeats 4000000 in
set_option maxRecDepth 100000 in
theorem c_X9_whyNotPlace_41 (l : Launch) {D : va_G} {q : Nat → ClassId} {ad : Nat → Nat} {κ : KS} {t : Nat → Int32} (sz : Nat) (hs : okStep 41 (t 0) (t 1) (t 2)) (hW : WFm κ) : Met l yX9_whyNotPlace wsX9_whyNotPlace (rmz 3 63) (va_Pc [.ref (ad 0), .int 41] (rPre D q (wM q ad κ t) sz)) (va_Qi (fun (r : Int32) (u : Unit) => r = why κ 41 (t 0) (t 1) (t 2)) (fun (u : Unit) tt => rPo D (rA (wM q ad κ t) sz) (wM q ad κ t) tt) (rA (wM q ad κ t) sz)) 0 0 (rA (wM q ad κ t) sz) := by
  have hi0 : vp_in (t 0) 8 := hs.1
  have hi1 : vp_in (t 1) 8 := hs.2.1
  have hi2 : vp_in (t 2) 8 := hs.2.2
  refine r_start (cc := cX9_whyNotPlace) (maxL := 7) (ret := (some .int)) (by decide) rfl (Nat.le_of_ble_eq_true rfl) ?_
  intro p e s m below meth c ls hC hr hlk hnm hsz hw hl
  have hx := hC.1
  have hb := hC.2.1
  have hl : lv_has ls 7 [(0, .ref (ad 0)), (1, .int 41)] := hl
  refine lv_iload_n hx hb dX9_whyNotPlace_0 rfl (lv_at hl 1 rfl) ?_
  refine lv_bipush (v := 39) hx hb dX9_whyNotPlace_1 (by decide) ?_
  refine lv_isub hx hb dX9_whyNotPlace_3 ?_
  refine r_topi (x := 41 - 39) (y := 2) (by decide) ?_
  refine lv_bipush (v := 10) hx hb dX9_whyNotPlace_4 (by decide) ?_
  refine lv_irem hx hb dX9_whyNotPlace_6 (by decide) ?_
  refine r_topi (x := 2 - 2 / 10 * 10) (y := 2) (by decide) ?_
  refine lv_istore_n (lv' := [(2, .int 2), (0, .ref (ad 0)), (1, .int 41)]) hx hb dX9_whyNotPlace_7 rfl hl (by decide) rfl (fun ls hl => ?_)
  refine lv_iload_n hx hb dX9_whyNotPlace_8 rfl (lv_at hl 2 rfl) ?_
  refine lv_bipush (v := 49) hx hb dX9_whyNotPlace_9 (by decide) ?_
  refine lv_icmp_lt (tgt := 18) hx hb dX9_whyNotPlace_11 (by decide) (fun _ => ?_) (fun c_ => absurd (by decide) c_)
  refine lv_iconst (v := 0) hx hb dX9_whyNotPlace_18 (by decide) ?_
  refine lv_istore_n (lv' := [(3, .int 0), (2, .int 2), (0, .ref (ad 0)), (1, .int 41)]) hx hb dX9_whyNotPlace_19 rfl hl (by decide) rfl (fun ls hl => ?_)
  refine lv_iload_n hx hb dX9_whyNotPlace_20 rfl (lv_at hl 1 rfl) ?_
  refine lv_bipush (v := 9) hx hb dX9_whyNotPlace_21 (by decide) ?_
  refine lv_icmp_ge (tgt := 30) hx hb dX9_whyNotPlace_23 (by decide) (fun c_ => absurd c_ (by decide)) (fun _ => ?_)
  refine lv_iload_n hx hb dX9_whyNotPlace_26 rfl (lv_at hl 1 rfl) ?_
  refine lv_goto (tgt := 32) hx hb dX9_whyNotPlace_27 (by decide) ?_
  refine lv_istore (lv' := [(4, .int 2), (3, .int 0), (2, .int 2), (0, .ref (ad 0)), (1, .int 41)]) hx hb dX9_whyNotPlace_32 hl (by decide) rfl (fun ls hl => ?_)
  refine lv_aload_n hx hb dX9_whyNotPlace_34 rfl (lv_at hl 3 rfl) ?_
  refine lv_aload_n hx hb dX9_whyNotPlace_35 rfl (lv_at hl 3 rfl) ?_
  refine r_get hC hw rk9 in_X9_whyNotPlace_9 0 (wMl 0 (by decide)) wM0 8 (by decide) lk_X9_whyNotPlace_31 (v := .ref (ad 7)) rfl dX9_whyNotPlace_36 ?_
  refine lv_aload_n hx hb dX9_whyNotPlace_39 rfl (lv_at hl 3 rfl) ?_
  refine r_get hC hw rk9 in_X9_whyNotPlace_9 0 (wMl 0 (by decide)) wM0 31 (by decide) lk_X9_whyNotPlace_126 (v := .int (t 1)) rfl dX9_whyNotPlace_40 ?_
  refine r_iald hC hw 7 (wMl 7 (by decide)) wM7 (by assumption) dX9_whyNotPlace_43 ?_
  refine lv_iload hx hb dX9_whyNotPlace_44 (lv_at hl 0 rfl) ?_
  refine r_ki hw (r_runV (rest := []) hC hw 0 (c_X9_isWrong_2 l _ (sA κ 3 (aN (t 1))) (fun hn => wf_ref hW (by assumption) hn)) rk9 (wMl 0 (by decide)) wM0 2 gX9_whyNotPlace_X9_isWrong rfl rfl rfl (by decide +kernel) ⟨Nat.le_of_ble_eq_true rfl, Nat.le_of_ble_eq_true rfl⟩ rfl hl.1 rfl (Nat.le_of_ble_eq_true rfl) dX9_whyNotPlace_46 ⟨Nat.le_of_ble_eq_true rfl, Nat.le_of_ble_eq_true rfl⟩) (fun r_2 u_3 H locs h_1 hw => ?_)
  by_cases c_4 : pWrong κ (sA κ 3 (aN (t 1))) 2
  · rw [if_pos c_4] at h_1
    subst h_1
    refine lv_if_ne (tgt := 107) hx hb dX9_whyNotPlace_49 (by decide) (fun _ => ?_) (fun c_ => absurd c_ (by decide))
    refine lv_iconst (v := 4) hx hb dX9_whyNotPlace_107 (by decide) ?_
    exact r_iret hC hr hlk hw () rfl (if_pos c_4).symm (Nat.le_of_ble_eq_true rfl) (Nat.le_of_ble_eq_true rfl) dX9_whyNotPlace_108
  · rw [if_neg c_4] at h_1
    subst h_1
    refine lv_if_ne (tgt := 107) hx hb dX9_whyNotPlace_49 (by decide) (fun c_ => absurd (by decide) c_) (fun _ => ?_)
    refine lv_iload_n hx hb dX9_whyNotPlace_52 rfl (lv_at hl 1 rfl) ?_
    refine lv_if_eq (tgt := 80) hx hb dX9_whyNotPlace_53 (by decide) (fun _ => ?_) (fun c_ => absurd (by decide) c_)
    refine lv_iload_n hx hb dX9_whyNotPlace_80 rfl (lv_at hl 1 rfl) ?_
    refine lv_if_eq (tgt := 109) hx hb dX9_whyNotPlace_81 (by decide) (fun _ => ?_) (fun c_ => absurd (by decide) c_)
    refine lv_aload_n hx hb dX9_whyNotPlace_109 rfl (lv_at hl 3 rfl) ?_
    refine r_get hC hw rk9 in_X9_whyNotPlace_9 0 (wMl 0 (by decide)) wM0 8 (by decide) lk_X9_whyNotPlace_31 (v := .ref (ad 7)) rfl dX9_whyNotPlace_110 ?_
    refine lv_aload_n hx hb dX9_whyNotPlace_113 rfl (lv_at hl 3 rfl) ?_
    refine r_get hC hw rk9 in_X9_whyNotPlace_9 0 (wMl 0 (by decide)) wM0 31 (by decide) lk_X9_whyNotPlace_126 (v := .int (t 1)) rfl dX9_whyNotPlace_114 ?_
    refine r_iald hC hw 7 (wMl 7 (by decide)) wM7 (by assumption) dX9_whyNotPlace_117 ?_
    refine lv_if_ne (tgt := 123) hx hb dX9_whyNotPlace_118 (by decide) (fun c_5 => ?_) (fun c_5 => ?_)
    · refine lv_aload_n hx hb dX9_whyNotPlace_123 rfl (lv_at hl 3 rfl) ?_
      refine r_get hC hw rk9 in_X9_whyNotPlace_9 0 (wMl 0 (by decide)) wM0 8 (by decide) lk_X9_whyNotPlace_31 (v := .ref (ad 7)) rfl dX9_whyNotPlace_124 ?_
      refine lv_aload_n hx hb dX9_whyNotPlace_127 rfl (lv_at hl 3 rfl) ?_
      refine r_get hC hw rk9 in_X9_whyNotPlace_9 0 (wMl 0 (by decide)) wM0 31 (by decide) lk_X9_whyNotPlace_126 (v := .int (t 1)) rfl dX9_whyNotPlace_128 ?_
      refine r_iald hC hw 7 (wMl 7 (by decide)) wM7 (by assumption) dX9_whyNotPlace_131 ?_
      refine lv_iconst (v := 1) hx hb dX9_whyNotPlace_132 (by decide) ?_
      refine lv_isub hx hb dX9_whyNotPlace_133 ?_
      refine lv_istore (lv' := [(5, .int ((sA κ 3 (aN (t 1))) - 1)), (4, .int 2), (3, .int 0), (2, .int 2), (0, .ref (ad 0)), (1, .int 41)]) hx hb dX9_whyNotPlace_134 hl (by decide) rfl (fun ls hl => ?_)
      refine lv_aload_n hx hb dX9_whyNotPlace_136 rfl (lv_at hl 4 rfl) ?_
      refine r_get hC hw rk9 in_X9_whyNotPlace_9 0 (wMl 0 (by decide)) wM0 4 (by decide) lk_X9_whyNotPlace_16 (v := .ref (ad 3)) rfl dX9_whyNotPlace_137 ?_
      refine lv_aload_n hx hb dX9_whyNotPlace_140 rfl (lv_at hl 4 rfl) ?_
      refine r_get hC hw rk9 in_X9_whyNotPlace_9 0 (wMl 0 (by decide)) wM0 32 (by decide) lk_X9_whyNotPlace_123 (v := .int (t 2)) rfl dX9_whyNotPlace_141 ?_
      refine r_iald hC hw 3 (wMl 3 (by decide)) wM3 (by assumption) dX9_whyNotPlace_144 ?_
      refine lv_iconst (v := 0) hx hb dX9_whyNotPlace_145 (by decide) ?_
      refine lv_aload_n hx hb dX9_whyNotPlace_146 rfl (lv_at hl 4 rfl) ?_
      refine r_get hC hw rk9 in_X9_whyNotPlace_9 0 (wMl 0 (by decide)) wM0 10 (by decide) lk_X9_whyNotPlace_37 (v := .ref (ad 9)) rfl dX9_whyNotPlace_147 ?_
      refine lv_iload hx hb dX9_whyNotPlace_150 (lv_at hl 0 rfl) ?_
      refine r_iald hC hw 9 (wMl 9 (by decide)) wM9 (wf_ref hW (by assumption) (by assumption)) dX9_whyNotPlace_152 ?_
      refine lv_iconst (v := 1) hx hb dX9_whyNotPlace_153 (by decide) ?_
      refine lv_isub hx hb dX9_whyNotPlace_154 ?_
      refine r_ki hw (r_runS (rest := []) hC hw (c_X9_isIn l _ _ (sA κ 2 (aN (t 2))) 0 ((sA κ 5 (aN ((sA κ 3 (aN (t 1))) - 1))) - 1)) 3 gX9_whyNotPlace_X9_isIn rfl rfl rfl (by decide +kernel) ⟨Nat.le_of_ble_eq_true rfl, Nat.le_of_ble_eq_true rfl⟩ rfl hl.1 rfl (Nat.le_of_ble_eq_true rfl) dX9_whyNotPlace_155 ⟨Nat.le_of_ble_eq_true rfl, Nat.le_of_ble_eq_true rfl⟩) (fun r_7 u_8 H locs h_6 hw => ?_)
      by_cases c_9 : pIn (sA κ 2 (aN (t 2))) 0 ((sA κ 5 (aN ((sA κ 3 (aN (t 1))) - 1))) - 1)
      · rw [if_pos c_9] at h_6
        subst h_6
        refine lv_if_ne (tgt := 163) hx hb dX9_whyNotPlace_158 (by decide) (fun _ => ?_) (fun c_ => absurd c_ (by decide))
        refine lv_iload_n hx hb dX9_whyNotPlace_163 rfl (lv_at hl 2 rfl) ?_
        refine lv_if_eq (tgt := 210) hx hb dX9_whyNotPlace_164 (by decide) (fun _ => ?_) (fun c_ => absurd (by decide) c_)
        refine lv_iconst (v := 0) hx hb dX9_whyNotPlace_210 (by decide) ?_
        refine lv_istore (lv' := [(6, .int 0), (5, .int ((sA κ 3 (aN (t 1))) - 1)), (4, .int 2), (3, .int 0), (2, .int 2), (0, .ref (ad 0)), (1, .int 41)]) hx hb dX9_whyNotPlace_211 hl (by decide) rfl (fun ls hl => ?_)
        refine lv_iload hx hb dX9_whyNotPlace_213 (lv_at hl 0 rfl) ?_
        refine lv_if_eq (tgt := 234) hx hb dX9_whyNotPlace_215 (by decide) (fun _ => ?_) (fun c_ => absurd (by decide) c_)
        refine lv_iconst (v := 0) hx hb dX9_whyNotPlace_234 (by decide) ?_
        exact r_iret hC hr hlk hw () rfl ((if_neg c_4).trans ((if_neg c_5).trans (if_pos c_9))).symm (Nat.le_of_ble_eq_true rfl) (Nat.le_of_ble_eq_true rfl) dX9_whyNotPlace_235
      · rw [if_neg c_9] at h_6
        subst h_6
        refine lv_if_ne (tgt := 163) hx hb dX9_whyNotPlace_158 (by decide) (fun c_ => absurd (by decide) c_) (fun _ => ?_)
        refine lv_iconst (v := 2) hx hb dX9_whyNotPlace_161 (by decide) ?_
        exact r_iret hC hr hlk hw () rfl ((if_neg c_4).trans ((if_neg c_5).trans (if_neg c_9))).symm (Nat.le_of_ble_eq_true rfl) (Nat.le_of_ble_eq_true rfl) dX9_whyNotPlace_162
    · refine lv_iconst (v := 1) hx hb dX9_whyNotPlace_121 (by decide) ?_
      exact r_iret hC hr hlk hw () rfl ((if_neg c_4).trans (if_pos c_5)).symm (Nat.le_of_ble_eq_true rfl) (Nat.le_of_ble_eq_true rfl) dX9_whyNotPlace_122

set_option maxHeartbeats 4000000 in
set_option maxRecDepth 100000 in
theorem c_X9_whyNotPlace_42 (l : Launch) {D : va_G} {q : Nat → ClassId} {ad : Nat → Nat} {κ : KS} {t : Nat → Int32} (sz : Nat) (hs : okStep 42 (t 0) (t 1) (t 2)) (hW : WFm κ) : Met l yX9_whyNotPlace wsX9_whyNotPlace (rmz 3 63) (va_Pc [.ref (ad 0), .int 42] (rPre D q (wM q ad κ t) sz)) (va_Qi (fun (r : Int32) (u : Unit) => r = why κ 42 (t 0) (t 1) (t 2)) (fun (u : Unit) tt => rPo D (rA (wM q ad κ t) sz) (wM q ad κ t) tt) (rA (wM q ad κ t) sz)) 0 0 (rA (wM q ad κ t) sz) := by
  have hi0 : vp_in (t 0) 8 := hs.1
  have hi1 : vp_in (t 1) 8 := hs.2.1
  have hi2 : vp_in (t 2) 8 := hs.2.2
  refine r_start (cc := cX9_whyNotPlace) (maxL := 7) (ret := (some .int)) (by decide) rfl (Nat.le_of_ble_eq_true rfl) ?_
  intro p e s m below meth c ls hC hr hlk hnm hsz hw hl
  have hx := hC.1
  have hb := hC.2.1
  have hl : lv_has ls 7 [(0, .ref (ad 0)), (1, .int 42)] := hl
  refine lv_iload_n hx hb dX9_whyNotPlace_0 rfl (lv_at hl 1 rfl) ?_
  refine lv_bipush (v := 39) hx hb dX9_whyNotPlace_1 (by decide) ?_
  refine lv_isub hx hb dX9_whyNotPlace_3 ?_
  refine r_topi (x := 42 - 39) (y := 3) (by decide) ?_
  refine lv_bipush (v := 10) hx hb dX9_whyNotPlace_4 (by decide) ?_
  refine lv_irem hx hb dX9_whyNotPlace_6 (by decide) ?_
  refine r_topi (x := 3 - 3 / 10 * 10) (y := 3) (by decide) ?_
  refine lv_istore_n (lv' := [(2, .int 3), (0, .ref (ad 0)), (1, .int 42)]) hx hb dX9_whyNotPlace_7 rfl hl (by decide) rfl (fun ls hl => ?_)
  refine lv_iload_n hx hb dX9_whyNotPlace_8 rfl (lv_at hl 2 rfl) ?_
  refine lv_bipush (v := 49) hx hb dX9_whyNotPlace_9 (by decide) ?_
  refine lv_icmp_lt (tgt := 18) hx hb dX9_whyNotPlace_11 (by decide) (fun _ => ?_) (fun c_ => absurd (by decide) c_)
  refine lv_iconst (v := 0) hx hb dX9_whyNotPlace_18 (by decide) ?_
  refine lv_istore_n (lv' := [(3, .int 0), (2, .int 3), (0, .ref (ad 0)), (1, .int 42)]) hx hb dX9_whyNotPlace_19 rfl hl (by decide) rfl (fun ls hl => ?_)
  refine lv_iload_n hx hb dX9_whyNotPlace_20 rfl (lv_at hl 1 rfl) ?_
  refine lv_bipush (v := 9) hx hb dX9_whyNotPlace_21 (by decide) ?_
  refine lv_icmp_ge (tgt := 30) hx hb dX9_whyNotPlace_23 (by decide) (fun c_ => absurd c_ (by decide)) (fun _ => ?_)
  refine lv_iload_n hx hb dX9_whyNotPlace_26 rfl (lv_at hl 1 rfl) ?_
  refine lv_goto (tgt := 32) hx hb dX9_whyNotPlace_27 (by decide) ?_
  refine lv_istore (lv' := [(4, .int 3), (3, .int 0), (2, .int 3), (0, .ref (ad 0)), (1, .int 42)]) hx hb dX9_whyNotPlace_32 hl (by decide) rfl (fun ls hl => ?_)
  refine lv_aload_n hx hb dX9_whyNotPlace_34 rfl (lv_at hl 3 rfl) ?_
  refine lv_aload_n hx hb dX9_whyNotPlace_35 rfl (lv_at hl 3 rfl) ?_
  refine r_get hC hw rk9 in_X9_whyNotPlace_9 0 (wMl 0 (by decide)) wM0 8 (by decide) lk_X9_whyNotPlace_31 (v := .ref (ad 7)) rfl dX9_whyNotPlace_36 ?_
  refine lv_aload_n hx hb dX9_whyNotPlace_39 rfl (lv_at hl 3 rfl) ?_
  refine r_get hC hw rk9 in_X9_whyNotPlace_9 0 (wMl 0 (by decide)) wM0 31 (by decide) lk_X9_whyNotPlace_126 (v := .int (t 1)) rfl dX9_whyNotPlace_40 ?_
  refine r_iald hC hw 7 (wMl 7 (by decide)) wM7 (by assumption) dX9_whyNotPlace_43 ?_
  refine lv_iload hx hb dX9_whyNotPlace_44 (lv_at hl 0 rfl) ?_
  refine r_ki hw (r_runV (rest := []) hC hw 0 (c_X9_isWrong_3 l _ (sA κ 3 (aN (t 1))) (fun hn => wf_ref hW (by assumption) hn)) rk9 (wMl 0 (by decide)) wM0 2 gX9_whyNotPlace_X9_isWrong rfl rfl rfl (by decide +kernel) ⟨Nat.le_of_ble_eq_true rfl, Nat.le_of_ble_eq_true rfl⟩ rfl hl.1 rfl (Nat.le_of_ble_eq_true rfl) dX9_whyNotPlace_46 ⟨Nat.le_of_ble_eq_true rfl, Nat.le_of_ble_eq_true rfl⟩) (fun r_2 u_3 H locs h_1 hw => ?_)
  by_cases c_4 : pWrong κ (sA κ 3 (aN (t 1))) 3
  · rw [if_pos c_4] at h_1
    subst h_1
    refine lv_if_ne (tgt := 107) hx hb dX9_whyNotPlace_49 (by decide) (fun _ => ?_) (fun c_ => absurd c_ (by decide))
    refine lv_iconst (v := 4) hx hb dX9_whyNotPlace_107 (by decide) ?_
    exact r_iret hC hr hlk hw () rfl (if_pos c_4).symm (Nat.le_of_ble_eq_true rfl) (Nat.le_of_ble_eq_true rfl) dX9_whyNotPlace_108
  · rw [if_neg c_4] at h_1
    subst h_1
    refine lv_if_ne (tgt := 107) hx hb dX9_whyNotPlace_49 (by decide) (fun c_ => absurd (by decide) c_) (fun _ => ?_)
    refine lv_iload_n hx hb dX9_whyNotPlace_52 rfl (lv_at hl 1 rfl) ?_
    refine lv_if_eq (tgt := 80) hx hb dX9_whyNotPlace_53 (by decide) (fun _ => ?_) (fun c_ => absurd (by decide) c_)
    refine lv_iload_n hx hb dX9_whyNotPlace_80 rfl (lv_at hl 1 rfl) ?_
    refine lv_if_eq (tgt := 109) hx hb dX9_whyNotPlace_81 (by decide) (fun _ => ?_) (fun c_ => absurd (by decide) c_)
    refine lv_aload_n hx hb dX9_whyNotPlace_109 rfl (lv_at hl 3 rfl) ?_
    refine r_get hC hw rk9 in_X9_whyNotPlace_9 0 (wMl 0 (by decide)) wM0 8 (by decide) lk_X9_whyNotPlace_31 (v := .ref (ad 7)) rfl dX9_whyNotPlace_110 ?_
    refine lv_aload_n hx hb dX9_whyNotPlace_113 rfl (lv_at hl 3 rfl) ?_
    refine r_get hC hw rk9 in_X9_whyNotPlace_9 0 (wMl 0 (by decide)) wM0 31 (by decide) lk_X9_whyNotPlace_126 (v := .int (t 1)) rfl dX9_whyNotPlace_114 ?_
    refine r_iald hC hw 7 (wMl 7 (by decide)) wM7 (by assumption) dX9_whyNotPlace_117 ?_
    refine lv_if_ne (tgt := 123) hx hb dX9_whyNotPlace_118 (by decide) (fun c_5 => ?_) (fun c_5 => ?_)
    · refine lv_aload_n hx hb dX9_whyNotPlace_123 rfl (lv_at hl 3 rfl) ?_
      refine r_get hC hw rk9 in_X9_whyNotPlace_9 0 (wMl 0 (by decide)) wM0 8 (by decide) lk_X9_whyNotPlace_31 (v := .ref (ad 7)) rfl dX9_whyNotPlace_124 ?_
      refine lv_aload_n hx hb dX9_whyNotPlace_127 rfl (lv_at hl 3 rfl) ?_
      refine r_get hC hw rk9 in_X9_whyNotPlace_9 0 (wMl 0 (by decide)) wM0 31 (by decide) lk_X9_whyNotPlace_126 (v := .int (t 1)) rfl dX9_whyNotPlace_128 ?_
      refine r_iald hC hw 7 (wMl 7 (by decide)) wM7 (by assumption) dX9_whyNotPlace_131 ?_
      refine lv_iconst (v := 1) hx hb dX9_whyNotPlace_132 (by decide) ?_
      refine lv_isub hx hb dX9_whyNotPlace_133 ?_
      refine lv_istore (lv' := [(5, .int ((sA κ 3 (aN (t 1))) - 1)), (4, .int 3), (3, .int 0), (2, .int 3), (0, .ref (ad 0)), (1, .int 42)]) hx hb dX9_whyNotPlace_134 hl (by decide) rfl (fun ls hl => ?_)
      refine lv_aload_n hx hb dX9_whyNotPlace_136 rfl (lv_at hl 4 rfl) ?_
      refine r_get hC hw rk9 in_X9_whyNotPlace_9 0 (wMl 0 (by decide)) wM0 4 (by decide) lk_X9_whyNotPlace_16 (v := .ref (ad 3)) rfl dX9_whyNotPlace_137 ?_
      refine lv_aload_n hx hb dX9_whyNotPlace_140 rfl (lv_at hl 4 rfl) ?_
      refine r_get hC hw rk9 in_X9_whyNotPlace_9 0 (wMl 0 (by decide)) wM0 32 (by decide) lk_X9_whyNotPlace_123 (v := .int (t 2)) rfl dX9_whyNotPlace_141 ?_
      refine r_iald hC hw 3 (wMl 3 (by decide)) wM3 (by assumption) dX9_whyNotPlace_144 ?_
      refine lv_iconst (v := 0) hx hb dX9_whyNotPlace_145 (by decide) ?_
      refine lv_aload_n hx hb dX9_whyNotPlace_146 rfl (lv_at hl 4 rfl) ?_
      refine r_get hC hw rk9 in_X9_whyNotPlace_9 0 (wMl 0 (by decide)) wM0 10 (by decide) lk_X9_whyNotPlace_37 (v := .ref (ad 9)) rfl dX9_whyNotPlace_147 ?_
      refine lv_iload hx hb dX9_whyNotPlace_150 (lv_at hl 0 rfl) ?_
      refine r_iald hC hw 9 (wMl 9 (by decide)) wM9 (wf_ref hW (by assumption) (by assumption)) dX9_whyNotPlace_152 ?_
      refine lv_iconst (v := 1) hx hb dX9_whyNotPlace_153 (by decide) ?_
      refine lv_isub hx hb dX9_whyNotPlace_154 ?_
      refine r_ki hw (r_runS (rest := []) hC hw (c_X9_isIn l _ _ (sA κ 2 (aN (t 2))) 0 ((sA κ 5 (aN ((sA κ 3 (aN (t 1))) - 1))) - 1)) 3 gX9_whyNotPlace_X9_isIn rfl rfl rfl (by decide +kernel) ⟨Nat.le_of_ble_eq_true rfl, Nat.le_of_ble_eq_true rfl⟩ rfl hl.1 rfl (Nat.le_of_ble_eq_true rfl) dX9_whyNotPlace_155 ⟨Nat.le_of_ble_eq_true rfl, Nat.le_of_ble_eq_true rfl⟩) (fun r_7 u_8 H locs h_6 hw => ?_)
      by_cases c_9 : pIn (sA κ 2 (aN (t 2))) 0 ((sA κ 5 (aN ((sA κ 3 (aN (t 1))) - 1))) - 1)
      · rw [if_pos c_9] at h_6
        subst h_6
        refine lv_if_ne (tgt := 163) hx hb dX9_whyNotPlace_158 (by decide) (fun _ => ?_) (fun c_ => absurd c_ (by decide))
        refine lv_iload_n hx hb dX9_whyNotPlace_163 rfl (lv_at hl 2 rfl) ?_
        refine lv_if_eq (tgt := 210) hx hb dX9_whyNotPlace_164 (by decide) (fun _ => ?_) (fun c_ => absurd (by decide) c_)
        refine lv_iconst (v := 0) hx hb dX9_whyNotPlace_210 (by decide) ?_
        refine lv_istore (lv' := [(6, .int 0), (5, .int ((sA κ 3 (aN (t 1))) - 1)), (4, .int 3), (3, .int 0), (2, .int 3), (0, .ref (ad 0)), (1, .int 42)]) hx hb dX9_whyNotPlace_211 hl (by decide) rfl (fun ls hl => ?_)
        refine lv_iload hx hb dX9_whyNotPlace_213 (lv_at hl 0 rfl) ?_
        refine lv_if_eq (tgt := 234) hx hb dX9_whyNotPlace_215 (by decide) (fun _ => ?_) (fun c_ => absurd (by decide) c_)
        refine lv_iconst (v := 0) hx hb dX9_whyNotPlace_234 (by decide) ?_
        exact r_iret hC hr hlk hw () rfl ((if_neg c_4).trans ((if_neg c_5).trans (if_pos c_9))).symm (Nat.le_of_ble_eq_true rfl) (Nat.le_of_ble_eq_true rfl) dX9_whyNotPlace_235
      · rw [if_neg c_9] at h_6
        subst h_6
        refine lv_if_ne (tgt := 163) hx hb dX9_whyNotPlace_158 (by decide) (fun c_ => absurd (by decide) c_) (fun _ => ?_)
        refine lv_iconst (v := 2) hx hb dX9_whyNotPlace_161 (by decide) ?_
        exact r_iret hC hr hlk hw () rfl ((if_neg c_4).trans ((if_neg c_5).trans (if_neg c_9))).symm (Nat.le_of_ble_eq_true rfl) (Nat.le_of_ble_eq_true rfl) dX9_whyNotPlace_162
    · refine lv_iconst (v := 1) hx hb dX9_whyNotPlace_121 (by decide) ?_
      exact r_iret hC hr hlk hw () rfl ((if_neg c_4).trans (if_pos c_5)).symm (Nat.le_of_ble_eq_true rfl) (Nat.le_of_ble_eq_true rfl) dX9_whyNotPlace_122

set_option maxHeartbeats 4000000 in
set_option maxRecDepth 100000 in
theorem c_X9_whyNotPlace_43 (l : Launch) {D : va_G} {q : Nat → ClassId} {ad : Nat → Nat} {κ : KS} {t : Nat → Int32} (sz : Nat) (hs : okStep 43 (t 0) (t 1) (t 2)) (hW : WFm κ) : Met l yX9_whyNotPlace wsX9_whyNotPlace (rmz 3 63) (va_Pc [.ref (ad 0), .int 43] (rPre D q (wM q ad κ t) sz)) (va_Qi (fun (r : Int32) (u : Unit) => r = why κ 43 (t 0) (t 1) (t 2)) (fun (u : Unit) tt => rPo D (rA (wM q ad κ t) sz) (wM q ad κ t) tt) (rA (wM q ad κ t) sz)) 0 0 (rA (wM q ad κ t) sz) := by
  have hi0 : vp_in (t 0) 8 := hs.1
  have hi1 : vp_in (t 1) 8 := hs.2.1
  have hi2 : vp_in (t 2) 8 := hs.2.2
  refine r_start (cc := cX9_whyNotPlace) (maxL := 7) (ret := (some .int)) (by decide) rfl (Nat.le_of_ble_eq_true rfl) ?_
  intro p e s m below meth c ls hC hr hlk hnm hsz hw hl
  have hx := hC.1
  have hb := hC.2.1
  have hl : lv_has ls 7 [(0, .ref (ad 0)), (1, .int 43)] := hl
  refine lv_iload_n hx hb dX9_whyNotPlace_0 rfl (lv_at hl 1 rfl) ?_
  refine lv_bipush (v := 39) hx hb dX9_whyNotPlace_1 (by decide) ?_
  refine lv_isub hx hb dX9_whyNotPlace_3 ?_
  refine r_topi (x := 43 - 39) (y := 4) (by decide) ?_
  refine lv_bipush (v := 10) hx hb dX9_whyNotPlace_4 (by decide) ?_
  refine lv_irem hx hb dX9_whyNotPlace_6 (by decide) ?_
  refine r_topi (x := 4 - 4 / 10 * 10) (y := 4) (by decide) ?_
  refine lv_istore_n (lv' := [(2, .int 4), (0, .ref (ad 0)), (1, .int 43)]) hx hb dX9_whyNotPlace_7 rfl hl (by decide) rfl (fun ls hl => ?_)
  refine lv_iload_n hx hb dX9_whyNotPlace_8 rfl (lv_at hl 2 rfl) ?_
  refine lv_bipush (v := 49) hx hb dX9_whyNotPlace_9 (by decide) ?_
  refine lv_icmp_lt (tgt := 18) hx hb dX9_whyNotPlace_11 (by decide) (fun _ => ?_) (fun c_ => absurd (by decide) c_)
  refine lv_iconst (v := 0) hx hb dX9_whyNotPlace_18 (by decide) ?_
  refine lv_istore_n (lv' := [(3, .int 0), (2, .int 4), (0, .ref (ad 0)), (1, .int 43)]) hx hb dX9_whyNotPlace_19 rfl hl (by decide) rfl (fun ls hl => ?_)
  refine lv_iload_n hx hb dX9_whyNotPlace_20 rfl (lv_at hl 1 rfl) ?_
  refine lv_bipush (v := 9) hx hb dX9_whyNotPlace_21 (by decide) ?_
  refine lv_icmp_ge (tgt := 30) hx hb dX9_whyNotPlace_23 (by decide) (fun c_ => absurd c_ (by decide)) (fun _ => ?_)
  refine lv_iload_n hx hb dX9_whyNotPlace_26 rfl (lv_at hl 1 rfl) ?_
  refine lv_goto (tgt := 32) hx hb dX9_whyNotPlace_27 (by decide) ?_
  refine lv_istore (lv' := [(4, .int 4), (3, .int 0), (2, .int 4), (0, .ref (ad 0)), (1, .int 43)]) hx hb dX9_whyNotPlace_32 hl (by decide) rfl (fun ls hl => ?_)
  refine lv_aload_n hx hb dX9_whyNotPlace_34 rfl (lv_at hl 3 rfl) ?_
  refine lv_aload_n hx hb dX9_whyNotPlace_35 rfl (lv_at hl 3 rfl) ?_
  refine r_get hC hw rk9 in_X9_whyNotPlace_9 0 (wMl 0 (by decide)) wM0 8 (by decide) lk_X9_whyNotPlace_31 (v := .ref (ad 7)) rfl dX9_whyNotPlace_36 ?_
  refine lv_aload_n hx hb dX9_whyNotPlace_39 rfl (lv_at hl 3 rfl) ?_
  refine r_get hC hw rk9 in_X9_whyNotPlace_9 0 (wMl 0 (by decide)) wM0 31 (by decide) lk_X9_whyNotPlace_126 (v := .int (t 1)) rfl dX9_whyNotPlace_40 ?_
  refine r_iald hC hw 7 (wMl 7 (by decide)) wM7 (by assumption) dX9_whyNotPlace_43 ?_
  refine lv_iload hx hb dX9_whyNotPlace_44 (lv_at hl 0 rfl) ?_
  refine r_ki hw (r_runV (rest := []) hC hw 0 (c_X9_isWrong_4 l _ (sA κ 3 (aN (t 1))) (fun hn => wf_ref hW (by assumption) hn)) rk9 (wMl 0 (by decide)) wM0 2 gX9_whyNotPlace_X9_isWrong rfl rfl rfl (by decide +kernel) ⟨Nat.le_of_ble_eq_true rfl, Nat.le_of_ble_eq_true rfl⟩ rfl hl.1 rfl (Nat.le_of_ble_eq_true rfl) dX9_whyNotPlace_46 ⟨Nat.le_of_ble_eq_true rfl, Nat.le_of_ble_eq_true rfl⟩) (fun r_2 u_3 H locs h_1 hw => ?_)
  by_cases c_4 : pWrong κ (sA κ 3 (aN (t 1))) 4
  · rw [if_pos c_4] at h_1
    subst h_1
    refine lv_if_ne (tgt := 107) hx hb dX9_whyNotPlace_49 (by decide) (fun _ => ?_) (fun c_ => absurd c_ (by decide))
    refine lv_iconst (v := 4) hx hb dX9_whyNotPlace_107 (by decide) ?_
    exact r_iret hC hr hlk hw () rfl (if_pos c_4).symm (Nat.le_of_ble_eq_true rfl) (Nat.le_of_ble_eq_true rfl) dX9_whyNotPlace_108
  · rw [if_neg c_4] at h_1
    subst h_1
    refine lv_if_ne (tgt := 107) hx hb dX9_whyNotPlace_49 (by decide) (fun c_ => absurd (by decide) c_) (fun _ => ?_)
    refine lv_iload_n hx hb dX9_whyNotPlace_52 rfl (lv_at hl 1 rfl) ?_
    refine lv_if_eq (tgt := 80) hx hb dX9_whyNotPlace_53 (by decide) (fun _ => ?_) (fun c_ => absurd (by decide) c_)
    refine lv_iload_n hx hb dX9_whyNotPlace_80 rfl (lv_at hl 1 rfl) ?_
    refine lv_if_eq (tgt := 109) hx hb dX9_whyNotPlace_81 (by decide) (fun _ => ?_) (fun c_ => absurd (by decide) c_)
    refine lv_aload_n hx hb dX9_whyNotPlace_109 rfl (lv_at hl 3 rfl) ?_
    refine r_get hC hw rk9 in_X9_whyNotPlace_9 0 (wMl 0 (by decide)) wM0 8 (by decide) lk_X9_whyNotPlace_31 (v := .ref (ad 7)) rfl dX9_whyNotPlace_110 ?_
    refine lv_aload_n hx hb dX9_whyNotPlace_113 rfl (lv_at hl 3 rfl) ?_
    refine r_get hC hw rk9 in_X9_whyNotPlace_9 0 (wMl 0 (by decide)) wM0 31 (by decide) lk_X9_whyNotPlace_126 (v := .int (t 1)) rfl dX9_whyNotPlace_114 ?_
    refine r_iald hC hw 7 (wMl 7 (by decide)) wM7 (by assumption) dX9_whyNotPlace_117 ?_
    refine lv_if_ne (tgt := 123) hx hb dX9_whyNotPlace_118 (by decide) (fun c_5 => ?_) (fun c_5 => ?_)
    · refine lv_aload_n hx hb dX9_whyNotPlace_123 rfl (lv_at hl 3 rfl) ?_
      refine r_get hC hw rk9 in_X9_whyNotPlace_9 0 (wMl 0 (by decide)) wM0 8 (by decide) lk_X9_whyNotPlace_31 (v := .ref (ad 7)) rfl dX9_whyNotPlace_124 ?_
      refine lv_aload_n hx hb dX9_whyNotPlace_127 rfl (lv_at hl 3 rfl) ?_
      refine r_get hC hw rk9 in_X9_whyNotPlace_9 0 (wMl 0 (by decide)) wM0 31 (by decide) lk_X9_whyNotPlace_126 (v := .int (t 1)) rfl dX9_whyNotPlace_128 ?_
      refine r_iald hC hw 7 (wMl 7 (by decide)) wM7 (by assumption) dX9_whyNotPlace_131 ?_
      refine lv_iconst (v := 1) hx hb dX9_whyNotPlace_132 (by decide) ?_
      refine lv_isub hx hb dX9_whyNotPlace_133 ?_
      refine lv_istore (lv' := [(5, .int ((sA κ 3 (aN (t 1))) - 1)), (4, .int 4), (3, .int 0), (2, .int 4), (0, .ref (ad 0)), (1, .int 43)]) hx hb dX9_whyNotPlace_134 hl (by decide) rfl (fun ls hl => ?_)
      refine lv_aload_n hx hb dX9_whyNotPlace_136 rfl (lv_at hl 4 rfl) ?_
      refine r_get hC hw rk9 in_X9_whyNotPlace_9 0 (wMl 0 (by decide)) wM0 4 (by decide) lk_X9_whyNotPlace_16 (v := .ref (ad 3)) rfl dX9_whyNotPlace_137 ?_
      refine lv_aload_n hx hb dX9_whyNotPlace_140 rfl (lv_at hl 4 rfl) ?_
      refine r_get hC hw rk9 in_X9_whyNotPlace_9 0 (wMl 0 (by decide)) wM0 32 (by decide) lk_X9_whyNotPlace_123 (v := .int (t 2)) rfl dX9_whyNotPlace_141 ?_
      refine r_iald hC hw 3 (wMl 3 (by decide)) wM3 (by assumption) dX9_whyNotPlace_144 ?_
      refine lv_iconst (v := 0) hx hb dX9_whyNotPlace_145 (by decide) ?_
      refine lv_aload_n hx hb dX9_whyNotPlace_146 rfl (lv_at hl 4 rfl) ?_
      refine r_get hC hw rk9 in_X9_whyNotPlace_9 0 (wMl 0 (by decide)) wM0 10 (by decide) lk_X9_whyNotPlace_37 (v := .ref (ad 9)) rfl dX9_whyNotPlace_147 ?_
      refine lv_iload hx hb dX9_whyNotPlace_150 (lv_at hl 0 rfl) ?_
      refine r_iald hC hw 9 (wMl 9 (by decide)) wM9 (wf_ref hW (by assumption) (by assumption)) dX9_whyNotPlace_152 ?_
      refine lv_iconst (v := 1) hx hb dX9_whyNotPlace_153 (by decide) ?_
      refine lv_isub hx hb dX9_whyNotPlace_154 ?_
      refine r_ki hw (r_runS (rest := []) hC hw (c_X9_isIn l _ _ (sA κ 2 (aN (t 2))) 0 ((sA κ 5 (aN ((sA κ 3 (aN (t 1))) - 1))) - 1)) 3 gX9_whyNotPlace_X9_isIn rfl rfl rfl (by decide +kernel) ⟨Nat.le_of_ble_eq_true rfl, Nat.le_of_ble_eq_true rfl⟩ rfl hl.1 rfl (Nat.le_of_ble_eq_true rfl) dX9_whyNotPlace_155 ⟨Nat.le_of_ble_eq_true rfl, Nat.le_of_ble_eq_true rfl⟩) (fun r_7 u_8 H locs h_6 hw => ?_)
      by_cases c_9 : pIn (sA κ 2 (aN (t 2))) 0 ((sA κ 5 (aN ((sA κ 3 (aN (t 1))) - 1))) - 1)
      · rw [if_pos c_9] at h_6
        subst h_6
        refine lv_if_ne (tgt := 163) hx hb dX9_whyNotPlace_158 (by decide) (fun _ => ?_) (fun c_ => absurd c_ (by decide))
        refine lv_iload_n hx hb dX9_whyNotPlace_163 rfl (lv_at hl 2 rfl) ?_
        refine lv_if_eq (tgt := 210) hx hb dX9_whyNotPlace_164 (by decide) (fun _ => ?_) (fun c_ => absurd (by decide) c_)
        refine lv_iconst (v := 0) hx hb dX9_whyNotPlace_210 (by decide) ?_
        refine lv_istore (lv' := [(6, .int 0), (5, .int ((sA κ 3 (aN (t 1))) - 1)), (4, .int 4), (3, .int 0), (2, .int 4), (0, .ref (ad 0)), (1, .int 43)]) hx hb dX9_whyNotPlace_211 hl (by decide) rfl (fun ls hl => ?_)
        refine lv_iload hx hb dX9_whyNotPlace_213 (lv_at hl 0 rfl) ?_
        refine lv_if_eq (tgt := 234) hx hb dX9_whyNotPlace_215 (by decide) (fun _ => ?_) (fun c_ => absurd (by decide) c_)
        refine lv_iconst (v := 0) hx hb dX9_whyNotPlace_234 (by decide) ?_
        exact r_iret hC hr hlk hw () rfl ((if_neg c_4).trans ((if_neg c_5).trans (if_pos c_9))).symm (Nat.le_of_ble_eq_true rfl) (Nat.le_of_ble_eq_true rfl) dX9_whyNotPlace_235
      · rw [if_neg c_9] at h_6
        subst h_6
        refine lv_if_ne (tgt := 163) hx hb dX9_whyNotPlace_158 (by decide) (fun c_ => absurd (by decide) c_) (fun _ => ?_)
        refine lv_iconst (v := 2) hx hb dX9_whyNotPlace_161 (by decide) ?_
        exact r_iret hC hr hlk hw () rfl ((if_neg c_4).trans ((if_neg c_5).trans (if_neg c_9))).symm (Nat.le_of_ble_eq_true rfl) (Nat.le_of_ble_eq_true rfl) dX9_whyNotPlace_162
    · refine lv_iconst (v := 1) hx hb dX9_whyNotPlace_121 (by decide) ?_
      exact r_iret hC hr hlk hw () rfl ((if_neg c_4).trans (if_pos c_5)).symm (Nat.le_of_ble_eq_true rfl) (Nat.le_of_ble_eq_true rfl) dX9_whyNotPlace_122

set_option maxHeartbeats 4000000 in
set_option maxRecDepth 100000 in
theorem c_X9_whyNotPlace_44 (l : Launch) {D : va_G} {q : Nat → ClassId} {ad : Nat → Nat} {κ : KS} {t : Nat → Int32} (sz : Nat) (hs : okStep 44 (t 0) (t 1) (t 2)) (hW : WFm κ) : Met l yX9_whyNotPlace wsX9_whyNotPlace (rmz 3 63) (va_Pc [.ref (ad 0), .int 44] (rPre D q (wM q ad κ t) sz)) (va_Qi (fun (r : Int32) (u : Unit) => r = why κ 44 (t 0) (t 1) (t 2)) (fun (u : Unit) tt => rPo D (rA (wM q ad κ t) sz) (wM q ad κ t) tt) (rA (wM q ad κ t) sz)) 0 0 (rA (wM q ad κ t) sz) := by
  have hi0 : vp_in (t 0) 4 := hs.1
  have hi1 : vp_in (t 1) 8 := hs.2.1
  have hi2 : vp_in (t 2) 8 := hs.2.2
  refine r_start (cc := cX9_whyNotPlace) (maxL := 7) (ret := (some .int)) (by decide) rfl (Nat.le_of_ble_eq_true rfl) ?_
  intro p e s m below meth c ls hC hr hlk hnm hsz hw hl
  have hx := hC.1
  have hb := hC.2.1
  have hl : lv_has ls 7 [(0, .ref (ad 0)), (1, .int 44)] := hl
  refine lv_iload_n hx hb dX9_whyNotPlace_0 rfl (lv_at hl 1 rfl) ?_
  refine lv_bipush (v := 39) hx hb dX9_whyNotPlace_1 (by decide) ?_
  refine lv_isub hx hb dX9_whyNotPlace_3 ?_
  refine r_topi (x := 44 - 39) (y := 5) (by decide) ?_
  refine lv_bipush (v := 10) hx hb dX9_whyNotPlace_4 (by decide) ?_
  refine lv_irem hx hb dX9_whyNotPlace_6 (by decide) ?_
  refine r_topi (x := 5 - 5 / 10 * 10) (y := 5) (by decide) ?_
  refine lv_istore_n (lv' := [(2, .int 5), (0, .ref (ad 0)), (1, .int 44)]) hx hb dX9_whyNotPlace_7 rfl hl (by decide) rfl (fun ls hl => ?_)
  refine lv_iload_n hx hb dX9_whyNotPlace_8 rfl (lv_at hl 2 rfl) ?_
  refine lv_bipush (v := 49) hx hb dX9_whyNotPlace_9 (by decide) ?_
  refine lv_icmp_lt (tgt := 18) hx hb dX9_whyNotPlace_11 (by decide) (fun _ => ?_) (fun c_ => absurd (by decide) c_)
  refine lv_iconst (v := 0) hx hb dX9_whyNotPlace_18 (by decide) ?_
  refine lv_istore_n (lv' := [(3, .int 0), (2, .int 5), (0, .ref (ad 0)), (1, .int 44)]) hx hb dX9_whyNotPlace_19 rfl hl (by decide) rfl (fun ls hl => ?_)
  refine lv_iload_n hx hb dX9_whyNotPlace_20 rfl (lv_at hl 1 rfl) ?_
  refine lv_bipush (v := 9) hx hb dX9_whyNotPlace_21 (by decide) ?_
  refine lv_icmp_ge (tgt := 30) hx hb dX9_whyNotPlace_23 (by decide) (fun c_ => absurd c_ (by decide)) (fun _ => ?_)
  refine lv_iload_n hx hb dX9_whyNotPlace_26 rfl (lv_at hl 1 rfl) ?_
  refine lv_goto (tgt := 32) hx hb dX9_whyNotPlace_27 (by decide) ?_
  refine lv_istore (lv' := [(4, .int 5), (3, .int 0), (2, .int 5), (0, .ref (ad 0)), (1, .int 44)]) hx hb dX9_whyNotPlace_32 hl (by decide) rfl (fun ls hl => ?_)
  refine lv_aload_n hx hb dX9_whyNotPlace_34 rfl (lv_at hl 3 rfl) ?_
  refine lv_aload_n hx hb dX9_whyNotPlace_35 rfl (lv_at hl 3 rfl) ?_
  refine r_get hC hw rk9 in_X9_whyNotPlace_9 0 (wMl 0 (by decide)) wM0 8 (by decide) lk_X9_whyNotPlace_31 (v := .ref (ad 7)) rfl dX9_whyNotPlace_36 ?_
  refine lv_aload_n hx hb dX9_whyNotPlace_39 rfl (lv_at hl 3 rfl) ?_
  refine r_get hC hw rk9 in_X9_whyNotPlace_9 0 (wMl 0 (by decide)) wM0 31 (by decide) lk_X9_whyNotPlace_126 (v := .int (t 1)) rfl dX9_whyNotPlace_40 ?_
  refine r_iald hC hw 7 (wMl 7 (by decide)) wM7 (by assumption) dX9_whyNotPlace_43 ?_
  refine lv_iload hx hb dX9_whyNotPlace_44 (lv_at hl 0 rfl) ?_
  refine r_ki hw (r_runV (rest := []) hC hw 0 (c_X9_isWrong_5 l _ (sA κ 3 (aN (t 1))) (fun hn => wf_ref hW (by assumption) hn)) rk9 (wMl 0 (by decide)) wM0 2 gX9_whyNotPlace_X9_isWrong rfl rfl rfl (by decide +kernel) ⟨Nat.le_of_ble_eq_true rfl, Nat.le_of_ble_eq_true rfl⟩ rfl hl.1 rfl (Nat.le_of_ble_eq_true rfl) dX9_whyNotPlace_46 ⟨Nat.le_of_ble_eq_true rfl, Nat.le_of_ble_eq_true rfl⟩) (fun r_2 u_3 H locs h_1 hw => ?_)
  by_cases c_4 : pWrong κ (sA κ 3 (aN (t 1))) 5
  · rw [if_pos c_4] at h_1
    subst h_1
    refine lv_if_ne (tgt := 107) hx hb dX9_whyNotPlace_49 (by decide) (fun _ => ?_) (fun c_ => absurd c_ (by decide))
    refine lv_iconst (v := 4) hx hb dX9_whyNotPlace_107 (by decide) ?_
    exact r_iret hC hr hlk hw () rfl (if_pos c_4).symm (Nat.le_of_ble_eq_true rfl) (Nat.le_of_ble_eq_true rfl) dX9_whyNotPlace_108
  · rw [if_neg c_4] at h_1
    subst h_1
    refine lv_if_ne (tgt := 107) hx hb dX9_whyNotPlace_49 (by decide) (fun c_ => absurd (by decide) c_) (fun _ => ?_)
    refine lv_iload_n hx hb dX9_whyNotPlace_52 rfl (lv_at hl 1 rfl) ?_
    refine lv_if_eq (tgt := 80) hx hb dX9_whyNotPlace_53 (by decide) (fun _ => ?_) (fun c_ => absurd (by decide) c_)
    refine lv_iload_n hx hb dX9_whyNotPlace_80 rfl (lv_at hl 1 rfl) ?_
    refine lv_if_eq (tgt := 109) hx hb dX9_whyNotPlace_81 (by decide) (fun _ => ?_) (fun c_ => absurd (by decide) c_)
    refine lv_aload_n hx hb dX9_whyNotPlace_109 rfl (lv_at hl 3 rfl) ?_
    refine r_get hC hw rk9 in_X9_whyNotPlace_9 0 (wMl 0 (by decide)) wM0 8 (by decide) lk_X9_whyNotPlace_31 (v := .ref (ad 7)) rfl dX9_whyNotPlace_110 ?_
    refine lv_aload_n hx hb dX9_whyNotPlace_113 rfl (lv_at hl 3 rfl) ?_
    refine r_get hC hw rk9 in_X9_whyNotPlace_9 0 (wMl 0 (by decide)) wM0 31 (by decide) lk_X9_whyNotPlace_126 (v := .int (t 1)) rfl dX9_whyNotPlace_114 ?_
    refine r_iald hC hw 7 (wMl 7 (by decide)) wM7 (by assumption) dX9_whyNotPlace_117 ?_
    refine lv_if_ne (tgt := 123) hx hb dX9_whyNotPlace_118 (by decide) (fun c_5 => ?_) (fun c_5 => ?_)
    · refine lv_aload_n hx hb dX9_whyNotPlace_123 rfl (lv_at hl 3 rfl) ?_
      refine r_get hC hw rk9 in_X9_whyNotPlace_9 0 (wMl 0 (by decide)) wM0 8 (by decide) lk_X9_whyNotPlace_31 (v := .ref (ad 7)) rfl dX9_whyNotPlace_124 ?_
      refine lv_aload_n hx hb dX9_whyNotPlace_127 rfl (lv_at hl 3 rfl) ?_
      refine r_get hC hw rk9 in_X9_whyNotPlace_9 0 (wMl 0 (by decide)) wM0 31 (by decide) lk_X9_whyNotPlace_126 (v := .int (t 1)) rfl dX9_whyNotPlace_128 ?_
      refine r_iald hC hw 7 (wMl 7 (by decide)) wM7 (by assumption) dX9_whyNotPlace_131 ?_
      refine lv_iconst (v := 1) hx hb dX9_whyNotPlace_132 (by decide) ?_
      refine lv_isub hx hb dX9_whyNotPlace_133 ?_
      refine lv_istore (lv' := [(5, .int ((sA κ 3 (aN (t 1))) - 1)), (4, .int 5), (3, .int 0), (2, .int 5), (0, .ref (ad 0)), (1, .int 44)]) hx hb dX9_whyNotPlace_134 hl (by decide) rfl (fun ls hl => ?_)
      refine lv_aload_n hx hb dX9_whyNotPlace_136 rfl (lv_at hl 4 rfl) ?_
      refine r_get hC hw rk9 in_X9_whyNotPlace_9 0 (wMl 0 (by decide)) wM0 4 (by decide) lk_X9_whyNotPlace_16 (v := .ref (ad 3)) rfl dX9_whyNotPlace_137 ?_
      refine lv_aload_n hx hb dX9_whyNotPlace_140 rfl (lv_at hl 4 rfl) ?_
      refine r_get hC hw rk9 in_X9_whyNotPlace_9 0 (wMl 0 (by decide)) wM0 32 (by decide) lk_X9_whyNotPlace_123 (v := .int (t 2)) rfl dX9_whyNotPlace_141 ?_
      refine r_iald hC hw 3 (wMl 3 (by decide)) wM3 (by assumption) dX9_whyNotPlace_144 ?_
      refine lv_iconst (v := 0) hx hb dX9_whyNotPlace_145 (by decide) ?_
      refine lv_aload_n hx hb dX9_whyNotPlace_146 rfl (lv_at hl 4 rfl) ?_
      refine r_get hC hw rk9 in_X9_whyNotPlace_9 0 (wMl 0 (by decide)) wM0 10 (by decide) lk_X9_whyNotPlace_37 (v := .ref (ad 9)) rfl dX9_whyNotPlace_147 ?_
      refine lv_iload hx hb dX9_whyNotPlace_150 (lv_at hl 0 rfl) ?_
      refine r_iald hC hw 9 (wMl 9 (by decide)) wM9 (wf_ref hW (by assumption) (by assumption)) dX9_whyNotPlace_152 ?_
      refine lv_iconst (v := 1) hx hb dX9_whyNotPlace_153 (by decide) ?_
      refine lv_isub hx hb dX9_whyNotPlace_154 ?_
      refine r_ki hw (r_runS (rest := []) hC hw (c_X9_isIn l _ _ (sA κ 2 (aN (t 2))) 0 ((sA κ 5 (aN ((sA κ 3 (aN (t 1))) - 1))) - 1)) 3 gX9_whyNotPlace_X9_isIn rfl rfl rfl (by decide +kernel) ⟨Nat.le_of_ble_eq_true rfl, Nat.le_of_ble_eq_true rfl⟩ rfl hl.1 rfl (Nat.le_of_ble_eq_true rfl) dX9_whyNotPlace_155 ⟨Nat.le_of_ble_eq_true rfl, Nat.le_of_ble_eq_true rfl⟩) (fun r_7 u_8 H locs h_6 hw => ?_)
      by_cases c_9 : pIn (sA κ 2 (aN (t 2))) 0 ((sA κ 5 (aN ((sA κ 3 (aN (t 1))) - 1))) - 1)
      · rw [if_pos c_9] at h_6
        subst h_6
        refine lv_if_ne (tgt := 163) hx hb dX9_whyNotPlace_158 (by decide) (fun _ => ?_) (fun c_ => absurd c_ (by decide))
        refine lv_iload_n hx hb dX9_whyNotPlace_163 rfl (lv_at hl 2 rfl) ?_
        refine lv_if_eq (tgt := 210) hx hb dX9_whyNotPlace_164 (by decide) (fun _ => ?_) (fun c_ => absurd (by decide) c_)
        refine lv_iconst (v := 0) hx hb dX9_whyNotPlace_210 (by decide) ?_
        refine lv_istore (lv' := [(6, .int 0), (5, .int ((sA κ 3 (aN (t 1))) - 1)), (4, .int 5), (3, .int 0), (2, .int 5), (0, .ref (ad 0)), (1, .int 44)]) hx hb dX9_whyNotPlace_211 hl (by decide) rfl (fun ls hl => ?_)
        refine lv_iload hx hb dX9_whyNotPlace_213 (lv_at hl 0 rfl) ?_
        refine lv_if_eq (tgt := 234) hx hb dX9_whyNotPlace_215 (by decide) (fun _ => ?_) (fun c_ => absurd (by decide) c_)
        refine lv_iconst (v := 0) hx hb dX9_whyNotPlace_234 (by decide) ?_
        exact r_iret hC hr hlk hw () rfl ((if_neg c_4).trans ((if_neg c_5).trans (if_pos c_9))).symm (Nat.le_of_ble_eq_true rfl) (Nat.le_of_ble_eq_true rfl) dX9_whyNotPlace_235
      · rw [if_neg c_9] at h_6
        subst h_6
        refine lv_if_ne (tgt := 163) hx hb dX9_whyNotPlace_158 (by decide) (fun c_ => absurd (by decide) c_) (fun _ => ?_)
        refine lv_iconst (v := 2) hx hb dX9_whyNotPlace_161 (by decide) ?_
        exact r_iret hC hr hlk hw () rfl ((if_neg c_4).trans ((if_neg c_5).trans (if_neg c_9))).symm (Nat.le_of_ble_eq_true rfl) (Nat.le_of_ble_eq_true rfl) dX9_whyNotPlace_162
    · refine lv_iconst (v := 1) hx hb dX9_whyNotPlace_121 (by decide) ?_
      exact r_iret hC hr hlk hw () rfl ((if_neg c_4).trans (if_pos c_5)).symm (Nat.le_of_ble_eq_true rfl) (Nat.le_of_ble_eq_true rfl) dX9_whyNotPlace_122

set_option maxHeartbeats 4000000 in
set_option maxRecDepth 100000 in
theorem c_X9_whyNotPlace_45 (l : Launch) {D : va_G} {q : Nat → ClassId} {ad : Nat → Nat} {κ : KS} {t : Nat → Int32} (sz : Nat) (hs : okStep 45 (t 0) (t 1) (t 2)) (hW : WFm κ) : Met l yX9_whyNotPlace wsX9_whyNotPlace (rmz 3 63) (va_Pc [.ref (ad 0), .int 45] (rPre D q (wM q ad κ t) sz)) (va_Qi (fun (r : Int32) (u : Unit) => r = why κ 45 (t 0) (t 1) (t 2)) (fun (u : Unit) tt => rPo D (rA (wM q ad κ t) sz) (wM q ad κ t) tt) (rA (wM q ad κ t) sz)) 0 0 (rA (wM q ad κ t) sz) := by
  have hi0 : vp_in (t 0) 4 := hs.1
  have hi1 : vp_in (t 1) 8 := hs.2.1
  have hi2 : vp_in (t 2) 8 := hs.2.2
  refine r_start (cc := cX9_whyNotPlace) (maxL := 7) (ret := (some .int)) (by decide) rfl (Nat.le_of_ble_eq_true rfl) ?_
  intro p e s m below meth c ls hC hr hlk hnm hsz hw hl
  have hx := hC.1
  have hb := hC.2.1
  have hl : lv_has ls 7 [(0, .ref (ad 0)), (1, .int 45)] := hl
  refine lv_iload_n hx hb dX9_whyNotPlace_0 rfl (lv_at hl 1 rfl) ?_
  refine lv_bipush (v := 39) hx hb dX9_whyNotPlace_1 (by decide) ?_
  refine lv_isub hx hb dX9_whyNotPlace_3 ?_
  refine r_topi (x := 45 - 39) (y := 6) (by decide) ?_
  refine lv_bipush (v := 10) hx hb dX9_whyNotPlace_4 (by decide) ?_
  refine lv_irem hx hb dX9_whyNotPlace_6 (by decide) ?_
  refine r_topi (x := 6 - 6 / 10 * 10) (y := 6) (by decide) ?_
  refine lv_istore_n (lv' := [(2, .int 6), (0, .ref (ad 0)), (1, .int 45)]) hx hb dX9_whyNotPlace_7 rfl hl (by decide) rfl (fun ls hl => ?_)
  refine lv_iload_n hx hb dX9_whyNotPlace_8 rfl (lv_at hl 2 rfl) ?_
  refine lv_bipush (v := 49) hx hb dX9_whyNotPlace_9 (by decide) ?_
  refine lv_icmp_lt (tgt := 18) hx hb dX9_whyNotPlace_11 (by decide) (fun _ => ?_) (fun c_ => absurd (by decide) c_)
  refine lv_iconst (v := 0) hx hb dX9_whyNotPlace_18 (by decide) ?_
  refine lv_istore_n (lv' := [(3, .int 0), (2, .int 6), (0, .ref (ad 0)), (1, .int 45)]) hx hb dX9_whyNotPlace_19 rfl hl (by decide) rfl (fun ls hl => ?_)
  refine lv_iload_n hx hb dX9_whyNotPlace_20 rfl (lv_at hl 1 rfl) ?_
  refine lv_bipush (v := 9) hx hb dX9_whyNotPlace_21 (by decide) ?_
  refine lv_icmp_ge (tgt := 30) hx hb dX9_whyNotPlace_23 (by decide) (fun c_ => absurd c_ (by decide)) (fun _ => ?_)
  refine lv_iload_n hx hb dX9_whyNotPlace_26 rfl (lv_at hl 1 rfl) ?_
  refine lv_goto (tgt := 32) hx hb dX9_whyNotPlace_27 (by decide) ?_
  refine lv_istore (lv' := [(4, .int 6), (3, .int 0), (2, .int 6), (0, .ref (ad 0)), (1, .int 45)]) hx hb dX9_whyNotPlace_32 hl (by decide) rfl (fun ls hl => ?_)
  refine lv_aload_n hx hb dX9_whyNotPlace_34 rfl (lv_at hl 3 rfl) ?_
  refine lv_aload_n hx hb dX9_whyNotPlace_35 rfl (lv_at hl 3 rfl) ?_
  refine r_get hC hw rk9 in_X9_whyNotPlace_9 0 (wMl 0 (by decide)) wM0 8 (by decide) lk_X9_whyNotPlace_31 (v := .ref (ad 7)) rfl dX9_whyNotPlace_36 ?_
  refine lv_aload_n hx hb dX9_whyNotPlace_39 rfl (lv_at hl 3 rfl) ?_
  refine r_get hC hw rk9 in_X9_whyNotPlace_9 0 (wMl 0 (by decide)) wM0 31 (by decide) lk_X9_whyNotPlace_126 (v := .int (t 1)) rfl dX9_whyNotPlace_40 ?_
  refine r_iald hC hw 7 (wMl 7 (by decide)) wM7 (by assumption) dX9_whyNotPlace_43 ?_
  refine lv_iload hx hb dX9_whyNotPlace_44 (lv_at hl 0 rfl) ?_
  refine r_ki hw (r_runV (rest := []) hC hw 0 (c_X9_isWrong_6 l _ (sA κ 3 (aN (t 1))) (fun hn => wf_ref hW (by assumption) hn)) rk9 (wMl 0 (by decide)) wM0 2 gX9_whyNotPlace_X9_isWrong rfl rfl rfl (by decide +kernel) ⟨Nat.le_of_ble_eq_true rfl, Nat.le_of_ble_eq_true rfl⟩ rfl hl.1 rfl (Nat.le_of_ble_eq_true rfl) dX9_whyNotPlace_46 ⟨Nat.le_of_ble_eq_true rfl, Nat.le_of_ble_eq_true rfl⟩) (fun r_2 u_3 H locs h_1 hw => ?_)
  by_cases c_4 : pWrong κ (sA κ 3 (aN (t 1))) 6
  · rw [if_pos c_4] at h_1
    subst h_1
    refine lv_if_ne (tgt := 107) hx hb dX9_whyNotPlace_49 (by decide) (fun _ => ?_) (fun c_ => absurd c_ (by decide))
    refine lv_iconst (v := 4) hx hb dX9_whyNotPlace_107 (by decide) ?_
    exact r_iret hC hr hlk hw () rfl (if_pos c_4).symm (Nat.le_of_ble_eq_true rfl) (Nat.le_of_ble_eq_true rfl) dX9_whyNotPlace_108
  · rw [if_neg c_4] at h_1
    subst h_1
    refine lv_if_ne (tgt := 107) hx hb dX9_whyNotPlace_49 (by decide) (fun c_ => absurd (by decide) c_) (fun _ => ?_)
    refine lv_iload_n hx hb dX9_whyNotPlace_52 rfl (lv_at hl 1 rfl) ?_
    refine lv_if_eq (tgt := 80) hx hb dX9_whyNotPlace_53 (by decide) (fun _ => ?_) (fun c_ => absurd (by decide) c_)
    refine lv_iload_n hx hb dX9_whyNotPlace_80 rfl (lv_at hl 1 rfl) ?_
    refine lv_if_eq (tgt := 109) hx hb dX9_whyNotPlace_81 (by decide) (fun _ => ?_) (fun c_ => absurd (by decide) c_)
    refine lv_aload_n hx hb dX9_whyNotPlace_109 rfl (lv_at hl 3 rfl) ?_
    refine r_get hC hw rk9 in_X9_whyNotPlace_9 0 (wMl 0 (by decide)) wM0 8 (by decide) lk_X9_whyNotPlace_31 (v := .ref (ad 7)) rfl dX9_whyNotPlace_110 ?_
    refine lv_aload_n hx hb dX9_whyNotPlace_113 rfl (lv_at hl 3 rfl) ?_
    refine r_get hC hw rk9 in_X9_whyNotPlace_9 0 (wMl 0 (by decide)) wM0 31 (by decide) lk_X9_whyNotPlace_126 (v := .int (t 1)) rfl dX9_whyNotPlace_114 ?_
    refine r_iald hC hw 7 (wMl 7 (by decide)) wM7 (by assumption) dX9_whyNotPlace_117 ?_
    refine lv_if_ne (tgt := 123) hx hb dX9_whyNotPlace_118 (by decide) (fun c_5 => ?_) (fun c_5 => ?_)
    · refine lv_aload_n hx hb dX9_whyNotPlace_123 rfl (lv_at hl 3 rfl) ?_
      refine r_get hC hw rk9 in_X9_whyNotPlace_9 0 (wMl 0 (by decide)) wM0 8 (by decide) lk_X9_whyNotPlace_31 (v := .ref (ad 7)) rfl dX9_whyNotPlace_124 ?_
      refine lv_aload_n hx hb dX9_whyNotPlace_127 rfl (lv_at hl 3 rfl) ?_
      refine r_get hC hw rk9 in_X9_whyNotPlace_9 0 (wMl 0 (by decide)) wM0 31 (by decide) lk_X9_whyNotPlace_126 (v := .int (t 1)) rfl dX9_whyNotPlace_128 ?_
      refine r_iald hC hw 7 (wMl 7 (by decide)) wM7 (by assumption) dX9_whyNotPlace_131 ?_
      refine lv_iconst (v := 1) hx hb dX9_whyNotPlace_132 (by decide) ?_
      refine lv_isub hx hb dX9_whyNotPlace_133 ?_
      refine lv_istore (lv' := [(5, .int ((sA κ 3 (aN (t 1))) - 1)), (4, .int 6), (3, .int 0), (2, .int 6), (0, .ref (ad 0)), (1, .int 45)]) hx hb dX9_whyNotPlace_134 hl (by decide) rfl (fun ls hl => ?_)
      refine lv_aload_n hx hb dX9_whyNotPlace_136 rfl (lv_at hl 4 rfl) ?_
      refine r_get hC hw rk9 in_X9_whyNotPlace_9 0 (wMl 0 (by decide)) wM0 4 (by decide) lk_X9_whyNotPlace_16 (v := .ref (ad 3)) rfl dX9_whyNotPlace_137 ?_
      refine lv_aload_n hx hb dX9_whyNotPlace_140 rfl (lv_at hl 4 rfl) ?_
      refine r_get hC hw rk9 in_X9_whyNotPlace_9 0 (wMl 0 (by decide)) wM0 32 (by decide) lk_X9_whyNotPlace_123 (v := .int (t 2)) rfl dX9_whyNotPlace_141 ?_
      refine r_iald hC hw 3 (wMl 3 (by decide)) wM3 (by assumption) dX9_whyNotPlace_144 ?_
      refine lv_iconst (v := 0) hx hb dX9_whyNotPlace_145 (by decide) ?_
      refine lv_aload_n hx hb dX9_whyNotPlace_146 rfl (lv_at hl 4 rfl) ?_
      refine r_get hC hw rk9 in_X9_whyNotPlace_9 0 (wMl 0 (by decide)) wM0 10 (by decide) lk_X9_whyNotPlace_37 (v := .ref (ad 9)) rfl dX9_whyNotPlace_147 ?_
      refine lv_iload hx hb dX9_whyNotPlace_150 (lv_at hl 0 rfl) ?_
      refine r_iald hC hw 9 (wMl 9 (by decide)) wM9 (wf_ref hW (by assumption) (by assumption)) dX9_whyNotPlace_152 ?_
      refine lv_iconst (v := 1) hx hb dX9_whyNotPlace_153 (by decide) ?_
      refine lv_isub hx hb dX9_whyNotPlace_154 ?_
      refine r_ki hw (r_runS (rest := []) hC hw (c_X9_isIn l _ _ (sA κ 2 (aN (t 2))) 0 ((sA κ 5 (aN ((sA κ 3 (aN (t 1))) - 1))) - 1)) 3 gX9_whyNotPlace_X9_isIn rfl rfl rfl (by decide +kernel) ⟨Nat.le_of_ble_eq_true rfl, Nat.le_of_ble_eq_true rfl⟩ rfl hl.1 rfl (Nat.le_of_ble_eq_true rfl) dX9_whyNotPlace_155 ⟨Nat.le_of_ble_eq_true rfl, Nat.le_of_ble_eq_true rfl⟩) (fun r_7 u_8 H locs h_6 hw => ?_)
      by_cases c_9 : pIn (sA κ 2 (aN (t 2))) 0 ((sA κ 5 (aN ((sA κ 3 (aN (t 1))) - 1))) - 1)
      · rw [if_pos c_9] at h_6
        subst h_6
        refine lv_if_ne (tgt := 163) hx hb dX9_whyNotPlace_158 (by decide) (fun _ => ?_) (fun c_ => absurd c_ (by decide))
        refine lv_iload_n hx hb dX9_whyNotPlace_163 rfl (lv_at hl 2 rfl) ?_
        refine lv_if_eq (tgt := 210) hx hb dX9_whyNotPlace_164 (by decide) (fun _ => ?_) (fun c_ => absurd (by decide) c_)
        refine lv_iconst (v := 0) hx hb dX9_whyNotPlace_210 (by decide) ?_
        refine lv_istore (lv' := [(6, .int 0), (5, .int ((sA κ 3 (aN (t 1))) - 1)), (4, .int 6), (3, .int 0), (2, .int 6), (0, .ref (ad 0)), (1, .int 45)]) hx hb dX9_whyNotPlace_211 hl (by decide) rfl (fun ls hl => ?_)
        refine lv_iload hx hb dX9_whyNotPlace_213 (lv_at hl 0 rfl) ?_
        refine lv_if_eq (tgt := 234) hx hb dX9_whyNotPlace_215 (by decide) (fun _ => ?_) (fun c_ => absurd (by decide) c_)
        refine lv_iconst (v := 0) hx hb dX9_whyNotPlace_234 (by decide) ?_
        exact r_iret hC hr hlk hw () rfl ((if_neg c_4).trans ((if_neg c_5).trans (if_pos c_9))).symm (Nat.le_of_ble_eq_true rfl) (Nat.le_of_ble_eq_true rfl) dX9_whyNotPlace_235
      · rw [if_neg c_9] at h_6
        subst h_6
        refine lv_if_ne (tgt := 163) hx hb dX9_whyNotPlace_158 (by decide) (fun c_ => absurd (by decide) c_) (fun _ => ?_)
        refine lv_iconst (v := 2) hx hb dX9_whyNotPlace_161 (by decide) ?_
        exact r_iret hC hr hlk hw () rfl ((if_neg c_4).trans ((if_neg c_5).trans (if_neg c_9))).symm (Nat.le_of_ble_eq_true rfl) (Nat.le_of_ble_eq_true rfl) dX9_whyNotPlace_162
    · refine lv_iconst (v := 1) hx hb dX9_whyNotPlace_121 (by decide) ?_
      exact r_iret hC hr hlk hw () rfl ((if_neg c_4).trans (if_pos c_5)).symm (Nat.le_of_ble_eq_true rfl) (Nat.le_of_ble_eq_true rfl) dX9_whyNotPlace_122

set_option maxHeartbeats 4000000 in
set_option maxRecDepth 100000 in
theorem c_X9_whyNotPlace_46 (l : Launch) {D : va_G} {q : Nat → ClassId} {ad : Nat → Nat} {κ : KS} {t : Nat → Int32} (sz : Nat) (hs : okStep 46 (t 0) (t 1) (t 2)) (hW : WFm κ) : Met l yX9_whyNotPlace wsX9_whyNotPlace (rmz 3 63) (va_Pc [.ref (ad 0), .int 46] (rPre D q (wM q ad κ t) sz)) (va_Qi (fun (r : Int32) (u : Unit) => r = why κ 46 (t 0) (t 1) (t 2)) (fun (u : Unit) tt => rPo D (rA (wM q ad κ t) sz) (wM q ad κ t) tt) (rA (wM q ad κ t) sz)) 0 0 (rA (wM q ad κ t) sz) := by
  have hi0 : vp_in (t 0) 4 := hs.1
  have hi1 : vp_in (t 1) 8 := hs.2.1
  have hi2 : vp_in (t 2) 8 := hs.2.2
  refine r_start (cc := cX9_whyNotPlace) (maxL := 7) (ret := (some .int)) (by decide) rfl (Nat.le_of_ble_eq_true rfl) ?_
  intro p e s m below meth c ls hC hr hlk hnm hsz hw hl
  have hx := hC.1
  have hb := hC.2.1
  have hl : lv_has ls 7 [(0, .ref (ad 0)), (1, .int 46)] := hl
  refine lv_iload_n hx hb dX9_whyNotPlace_0 rfl (lv_at hl 1 rfl) ?_
  refine lv_bipush (v := 39) hx hb dX9_whyNotPlace_1 (by decide) ?_
  refine lv_isub hx hb dX9_whyNotPlace_3 ?_
  refine r_topi (x := 46 - 39) (y := 7) (by decide) ?_
  refine lv_bipush (v := 10) hx hb dX9_whyNotPlace_4 (by decide) ?_
  refine lv_irem hx hb dX9_whyNotPlace_6 (by decide) ?_
  refine r_topi (x := 7 - 7 / 10 * 10) (y := 7) (by decide) ?_
  refine lv_istore_n (lv' := [(2, .int 7), (0, .ref (ad 0)), (1, .int 46)]) hx hb dX9_whyNotPlace_7 rfl hl (by decide) rfl (fun ls hl => ?_)
  refine lv_iload_n hx hb dX9_whyNotPlace_8 rfl (lv_at hl 2 rfl) ?_
  refine lv_bipush (v := 49) hx hb dX9_whyNotPlace_9 (by decide) ?_
  refine lv_icmp_lt (tgt := 18) hx hb dX9_whyNotPlace_11 (by decide) (fun _ => ?_) (fun c_ => absurd (by decide) c_)
  refine lv_iconst (v := 0) hx hb dX9_whyNotPlace_18 (by decide) ?_
  refine lv_istore_n (lv' := [(3, .int 0), (2, .int 7), (0, .ref (ad 0)), (1, .int 46)]) hx hb dX9_whyNotPlace_19 rfl hl (by decide) rfl (fun ls hl => ?_)
  refine lv_iload_n hx hb dX9_whyNotPlace_20 rfl (lv_at hl 1 rfl) ?_
  refine lv_bipush (v := 9) hx hb dX9_whyNotPlace_21 (by decide) ?_
  refine lv_icmp_ge (tgt := 30) hx hb dX9_whyNotPlace_23 (by decide) (fun c_ => absurd c_ (by decide)) (fun _ => ?_)
  refine lv_iload_n hx hb dX9_whyNotPlace_26 rfl (lv_at hl 1 rfl) ?_
  refine lv_goto (tgt := 32) hx hb dX9_whyNotPlace_27 (by decide) ?_
  refine lv_istore (lv' := [(4, .int 7), (3, .int 0), (2, .int 7), (0, .ref (ad 0)), (1, .int 46)]) hx hb dX9_whyNotPlace_32 hl (by decide) rfl (fun ls hl => ?_)
  refine lv_aload_n hx hb dX9_whyNotPlace_34 rfl (lv_at hl 3 rfl) ?_
  refine lv_aload_n hx hb dX9_whyNotPlace_35 rfl (lv_at hl 3 rfl) ?_
  refine r_get hC hw rk9 in_X9_whyNotPlace_9 0 (wMl 0 (by decide)) wM0 8 (by decide) lk_X9_whyNotPlace_31 (v := .ref (ad 7)) rfl dX9_whyNotPlace_36 ?_
  refine lv_aload_n hx hb dX9_whyNotPlace_39 rfl (lv_at hl 3 rfl) ?_
  refine r_get hC hw rk9 in_X9_whyNotPlace_9 0 (wMl 0 (by decide)) wM0 31 (by decide) lk_X9_whyNotPlace_126 (v := .int (t 1)) rfl dX9_whyNotPlace_40 ?_
  refine r_iald hC hw 7 (wMl 7 (by decide)) wM7 (by assumption) dX9_whyNotPlace_43 ?_
  refine lv_iload hx hb dX9_whyNotPlace_44 (lv_at hl 0 rfl) ?_
  refine r_ki hw (r_runV (rest := []) hC hw 0 (c_X9_isWrong_7 l _ (sA κ 3 (aN (t 1))) (fun hn => wf_ref hW (by assumption) hn)) rk9 (wMl 0 (by decide)) wM0 2 gX9_whyNotPlace_X9_isWrong rfl rfl rfl (by decide +kernel) ⟨Nat.le_of_ble_eq_true rfl, Nat.le_of_ble_eq_true rfl⟩ rfl hl.1 rfl (Nat.le_of_ble_eq_true rfl) dX9_whyNotPlace_46 ⟨Nat.le_of_ble_eq_true rfl, Nat.le_of_ble_eq_true rfl⟩) (fun r_2 u_3 H locs h_1 hw => ?_)
  by_cases c_4 : pWrong κ (sA κ 3 (aN (t 1))) 7
  · rw [if_pos c_4] at h_1
    subst h_1
    refine lv_if_ne (tgt := 107) hx hb dX9_whyNotPlace_49 (by decide) (fun _ => ?_) (fun c_ => absurd c_ (by decide))
    refine lv_iconst (v := 4) hx hb dX9_whyNotPlace_107 (by decide) ?_
    exact r_iret hC hr hlk hw () rfl (if_pos c_4).symm (Nat.le_of_ble_eq_true rfl) (Nat.le_of_ble_eq_true rfl) dX9_whyNotPlace_108
  · rw [if_neg c_4] at h_1
    subst h_1
    refine lv_if_ne (tgt := 107) hx hb dX9_whyNotPlace_49 (by decide) (fun c_ => absurd (by decide) c_) (fun _ => ?_)
    refine lv_iload_n hx hb dX9_whyNotPlace_52 rfl (lv_at hl 1 rfl) ?_
    refine lv_if_eq (tgt := 80) hx hb dX9_whyNotPlace_53 (by decide) (fun _ => ?_) (fun c_ => absurd (by decide) c_)
    refine lv_iload_n hx hb dX9_whyNotPlace_80 rfl (lv_at hl 1 rfl) ?_
    refine lv_if_eq (tgt := 109) hx hb dX9_whyNotPlace_81 (by decide) (fun _ => ?_) (fun c_ => absurd (by decide) c_)
    refine lv_aload_n hx hb dX9_whyNotPlace_109 rfl (lv_at hl 3 rfl) ?_
    refine r_get hC hw rk9 in_X9_whyNotPlace_9 0 (wMl 0 (by decide)) wM0 8 (by decide) lk_X9_whyNotPlace_31 (v := .ref (ad 7)) rfl dX9_whyNotPlace_110 ?_
    refine lv_aload_n hx hb dX9_whyNotPlace_113 rfl (lv_at hl 3 rfl) ?_
    refine r_get hC hw rk9 in_X9_whyNotPlace_9 0 (wMl 0 (by decide)) wM0 31 (by decide) lk_X9_whyNotPlace_126 (v := .int (t 1)) rfl dX9_whyNotPlace_114 ?_
    refine r_iald hC hw 7 (wMl 7 (by decide)) wM7 (by assumption) dX9_whyNotPlace_117 ?_
    refine lv_if_ne (tgt := 123) hx hb dX9_whyNotPlace_118 (by decide) (fun c_5 => ?_) (fun c_5 => ?_)
    · refine lv_aload_n hx hb dX9_whyNotPlace_123 rfl (lv_at hl 3 rfl) ?_
      refine r_get hC hw rk9 in_X9_whyNotPlace_9 0 (wMl 0 (by decide)) wM0 8 (by decide) lk_X9_whyNotPlace_31 (v := .ref (ad 7)) rfl dX9_whyNotPlace_124 ?_
      refine lv_aload_n hx hb dX9_whyNotPlace_127 rfl (lv_at hl 3 rfl) ?_
      refine r_get hC hw rk9 in_X9_whyNotPlace_9 0 (wMl 0 (by decide)) wM0 31 (by decide) lk_X9_whyNotPlace_126 (v := .int (t 1)) rfl dX9_whyNotPlace_128 ?_
      refine r_iald hC hw 7 (wMl 7 (by decide)) wM7 (by assumption) dX9_whyNotPlace_131 ?_
      refine lv_iconst (v := 1) hx hb dX9_whyNotPlace_132 (by decide) ?_
      refine lv_isub hx hb dX9_whyNotPlace_133 ?_
      refine lv_istore (lv' := [(5, .int ((sA κ 3 (aN (t 1))) - 1)), (4, .int 7), (3, .int 0), (2, .int 7), (0, .ref (ad 0)), (1, .int 46)]) hx hb dX9_whyNotPlace_134 hl (by decide) rfl (fun ls hl => ?_)
      refine lv_aload_n hx hb dX9_whyNotPlace_136 rfl (lv_at hl 4 rfl) ?_
      refine r_get hC hw rk9 in_X9_whyNotPlace_9 0 (wMl 0 (by decide)) wM0 4 (by decide) lk_X9_whyNotPlace_16 (v := .ref (ad 3)) rfl dX9_whyNotPlace_137 ?_
      refine lv_aload_n hx hb dX9_whyNotPlace_140 rfl (lv_at hl 4 rfl) ?_
      refine r_get hC hw rk9 in_X9_whyNotPlace_9 0 (wMl 0 (by decide)) wM0 32 (by decide) lk_X9_whyNotPlace_123 (v := .int (t 2)) rfl dX9_whyNotPlace_141 ?_
      refine r_iald hC hw 3 (wMl 3 (by decide)) wM3 (by assumption) dX9_whyNotPlace_144 ?_
      refine lv_iconst (v := 0) hx hb dX9_whyNotPlace_145 (by decide) ?_
      refine lv_aload_n hx hb dX9_whyNotPlace_146 rfl (lv_at hl 4 rfl) ?_
      refine r_get hC hw rk9 in_X9_whyNotPlace_9 0 (wMl 0 (by decide)) wM0 10 (by decide) lk_X9_whyNotPlace_37 (v := .ref (ad 9)) rfl dX9_whyNotPlace_147 ?_
      refine lv_iload hx hb dX9_whyNotPlace_150 (lv_at hl 0 rfl) ?_
      refine r_iald hC hw 9 (wMl 9 (by decide)) wM9 (wf_ref hW (by assumption) (by assumption)) dX9_whyNotPlace_152 ?_
      refine lv_iconst (v := 1) hx hb dX9_whyNotPlace_153 (by decide) ?_
      refine lv_isub hx hb dX9_whyNotPlace_154 ?_
      refine r_ki hw (r_runS (rest := []) hC hw (c_X9_isIn l _ _ (sA κ 2 (aN (t 2))) 0 ((sA κ 5 (aN ((sA κ 3 (aN (t 1))) - 1))) - 1)) 3 gX9_whyNotPlace_X9_isIn rfl rfl rfl (by decide +kernel) ⟨Nat.le_of_ble_eq_true rfl, Nat.le_of_ble_eq_true rfl⟩ rfl hl.1 rfl (Nat.le_of_ble_eq_true rfl) dX9_whyNotPlace_155 ⟨Nat.le_of_ble_eq_true rfl, Nat.le_of_ble_eq_true rfl⟩) (fun r_7 u_8 H locs h_6 hw => ?_)
      by_cases c_9 : pIn (sA κ 2 (aN (t 2))) 0 ((sA κ 5 (aN ((sA κ 3 (aN (t 1))) - 1))) - 1)
      · rw [if_pos c_9] at h_6
        subst h_6
        refine lv_if_ne (tgt := 163) hx hb dX9_whyNotPlace_158 (by decide) (fun _ => ?_) (fun c_ => absurd c_ (by decide))
        refine lv_iload_n hx hb dX9_whyNotPlace_163 rfl (lv_at hl 2 rfl) ?_
        refine lv_if_eq (tgt := 210) hx hb dX9_whyNotPlace_164 (by decide) (fun _ => ?_) (fun c_ => absurd (by decide) c_)
        refine lv_iconst (v := 0) hx hb dX9_whyNotPlace_210 (by decide) ?_
        refine lv_istore (lv' := [(6, .int 0), (5, .int ((sA κ 3 (aN (t 1))) - 1)), (4, .int 7), (3, .int 0), (2, .int 7), (0, .ref (ad 0)), (1, .int 46)]) hx hb dX9_whyNotPlace_211 hl (by decide) rfl (fun ls hl => ?_)
        refine lv_iload hx hb dX9_whyNotPlace_213 (lv_at hl 0 rfl) ?_
        refine lv_if_eq (tgt := 234) hx hb dX9_whyNotPlace_215 (by decide) (fun _ => ?_) (fun c_ => absurd (by decide) c_)
        refine lv_iconst (v := 0) hx hb dX9_whyNotPlace_234 (by decide) ?_
        exact r_iret hC hr hlk hw () rfl ((if_neg c_4).trans ((if_neg c_5).trans (if_pos c_9))).symm (Nat.le_of_ble_eq_true rfl) (Nat.le_of_ble_eq_true rfl) dX9_whyNotPlace_235
      · rw [if_neg c_9] at h_6
        subst h_6
        refine lv_if_ne (tgt := 163) hx hb dX9_whyNotPlace_158 (by decide) (fun c_ => absurd (by decide) c_) (fun _ => ?_)
        refine lv_iconst (v := 2) hx hb dX9_whyNotPlace_161 (by decide) ?_
        exact r_iret hC hr hlk hw () rfl ((if_neg c_4).trans ((if_neg c_5).trans (if_neg c_9))).symm (Nat.le_of_ble_eq_true rfl) (Nat.le_of_ble_eq_true rfl) dX9_whyNotPlace_162
    · refine lv_iconst (v := 1) hx hb dX9_whyNotPlace_121 (by decide) ?_
      exact r_iret hC hr hlk hw () rfl ((if_neg c_4).trans (if_pos c_5)).symm (Nat.le_of_ble_eq_true rfl) (Nat.le_of_ble_eq_true rfl) dX9_whyNotPlace_122

set_option maxHeartbeats 4000000 in
set_option maxRecDepth 100000 in
theorem c_X9_whyNotPlace_47 (l : Launch) {D : va_G} {q : Nat → ClassId} {ad : Nat → Nat} {κ : KS} {t : Nat → Int32} (sz : Nat) (hs : okStep 47 (t 0) (t 1) (t 2)) (hW : WFm κ) : Met l yX9_whyNotPlace wsX9_whyNotPlace (rmz 3 63) (va_Pc [.ref (ad 0), .int 47] (rPre D q (wM q ad κ t) sz)) (va_Qi (fun (r : Int32) (u : Unit) => r = why κ 47 (t 0) (t 1) (t 2)) (fun (u : Unit) tt => rPo D (rA (wM q ad κ t) sz) (wM q ad κ t) tt) (rA (wM q ad κ t) sz)) 0 0 (rA (wM q ad κ t) sz) := by
  have hi0 : vp_in (t 0) 8 := hs.1
  have hi1 : vp_in (t 1) 8 := hs.2.1
  have hi2 : vp_in (t 2) 8 := hs.2.2
  refine r_start (cc := cX9_whyNotPlace) (maxL := 7) (ret := (some .int)) (by decide) rfl (Nat.le_of_ble_eq_true rfl) ?_
  intro p e s m below meth c ls hC hr hlk hnm hsz hw hl
  have hx := hC.1
  have hb := hC.2.1
  have hl : lv_has ls 7 [(0, .ref (ad 0)), (1, .int 47)] := hl
  refine lv_iload_n hx hb dX9_whyNotPlace_0 rfl (lv_at hl 1 rfl) ?_
  refine lv_bipush (v := 39) hx hb dX9_whyNotPlace_1 (by decide) ?_
  refine lv_isub hx hb dX9_whyNotPlace_3 ?_
  refine r_topi (x := 47 - 39) (y := 8) (by decide) ?_
  refine lv_bipush (v := 10) hx hb dX9_whyNotPlace_4 (by decide) ?_
  refine lv_irem hx hb dX9_whyNotPlace_6 (by decide) ?_
  refine r_topi (x := 8 - 8 / 10 * 10) (y := 8) (by decide) ?_
  refine lv_istore_n (lv' := [(2, .int 8), (0, .ref (ad 0)), (1, .int 47)]) hx hb dX9_whyNotPlace_7 rfl hl (by decide) rfl (fun ls hl => ?_)
  refine lv_iload_n hx hb dX9_whyNotPlace_8 rfl (lv_at hl 2 rfl) ?_
  refine lv_bipush (v := 49) hx hb dX9_whyNotPlace_9 (by decide) ?_
  refine lv_icmp_lt (tgt := 18) hx hb dX9_whyNotPlace_11 (by decide) (fun _ => ?_) (fun c_ => absurd (by decide) c_)
  refine lv_iconst (v := 0) hx hb dX9_whyNotPlace_18 (by decide) ?_
  refine lv_istore_n (lv' := [(3, .int 0), (2, .int 8), (0, .ref (ad 0)), (1, .int 47)]) hx hb dX9_whyNotPlace_19 rfl hl (by decide) rfl (fun ls hl => ?_)
  refine lv_iload_n hx hb dX9_whyNotPlace_20 rfl (lv_at hl 1 rfl) ?_
  refine lv_bipush (v := 9) hx hb dX9_whyNotPlace_21 (by decide) ?_
  refine lv_icmp_ge (tgt := 30) hx hb dX9_whyNotPlace_23 (by decide) (fun c_ => absurd c_ (by decide)) (fun _ => ?_)
  refine lv_iload_n hx hb dX9_whyNotPlace_26 rfl (lv_at hl 1 rfl) ?_
  refine lv_goto (tgt := 32) hx hb dX9_whyNotPlace_27 (by decide) ?_
  refine lv_istore (lv' := [(4, .int 8), (3, .int 0), (2, .int 8), (0, .ref (ad 0)), (1, .int 47)]) hx hb dX9_whyNotPlace_32 hl (by decide) rfl (fun ls hl => ?_)
  refine lv_aload_n hx hb dX9_whyNotPlace_34 rfl (lv_at hl 3 rfl) ?_
  refine lv_aload_n hx hb dX9_whyNotPlace_35 rfl (lv_at hl 3 rfl) ?_
  refine r_get hC hw rk9 in_X9_whyNotPlace_9 0 (wMl 0 (by decide)) wM0 8 (by decide) lk_X9_whyNotPlace_31 (v := .ref (ad 7)) rfl dX9_whyNotPlace_36 ?_
  refine lv_aload_n hx hb dX9_whyNotPlace_39 rfl (lv_at hl 3 rfl) ?_
  refine r_get hC hw rk9 in_X9_whyNotPlace_9 0 (wMl 0 (by decide)) wM0 31 (by decide) lk_X9_whyNotPlace_126 (v := .int (t 1)) rfl dX9_whyNotPlace_40 ?_
  refine r_iald hC hw 7 (wMl 7 (by decide)) wM7 (by assumption) dX9_whyNotPlace_43 ?_
  refine lv_iload hx hb dX9_whyNotPlace_44 (lv_at hl 0 rfl) ?_
  refine r_ki hw (r_runV (rest := []) hC hw 0 (c_X9_isWrong_8 l _ (sA κ 3 (aN (t 1))) (fun hn => wf_ref hW (by assumption) hn)) rk9 (wMl 0 (by decide)) wM0 2 gX9_whyNotPlace_X9_isWrong rfl rfl rfl (by decide +kernel) ⟨Nat.le_of_ble_eq_true rfl, Nat.le_of_ble_eq_true rfl⟩ rfl hl.1 rfl (Nat.le_of_ble_eq_true rfl) dX9_whyNotPlace_46 ⟨Nat.le_of_ble_eq_true rfl, Nat.le_of_ble_eq_true rfl⟩) (fun r_2 u_3 H locs h_1 hw => ?_)
  by_cases c_4 : pWrong κ (sA κ 3 (aN (t 1))) 8
  · rw [if_pos c_4] at h_1
    subst h_1
    refine lv_if_ne (tgt := 107) hx hb dX9_whyNotPlace_49 (by decide) (fun _ => ?_) (fun c_ => absurd c_ (by decide))
    refine lv_iconst (v := 4) hx hb dX9_whyNotPlace_107 (by decide) ?_
    exact r_iret hC hr hlk hw () rfl (if_pos c_4).symm (Nat.le_of_ble_eq_true rfl) (Nat.le_of_ble_eq_true rfl) dX9_whyNotPlace_108
  · rw [if_neg c_4] at h_1
    subst h_1
    refine lv_if_ne (tgt := 107) hx hb dX9_whyNotPlace_49 (by decide) (fun c_ => absurd (by decide) c_) (fun _ => ?_)
    refine lv_iload_n hx hb dX9_whyNotPlace_52 rfl (lv_at hl 1 rfl) ?_
    refine lv_if_eq (tgt := 80) hx hb dX9_whyNotPlace_53 (by decide) (fun _ => ?_) (fun c_ => absurd (by decide) c_)
    refine lv_iload_n hx hb dX9_whyNotPlace_80 rfl (lv_at hl 1 rfl) ?_
    refine lv_if_eq (tgt := 109) hx hb dX9_whyNotPlace_81 (by decide) (fun _ => ?_) (fun c_ => absurd (by decide) c_)
    refine lv_aload_n hx hb dX9_whyNotPlace_109 rfl (lv_at hl 3 rfl) ?_
    refine r_get hC hw rk9 in_X9_whyNotPlace_9 0 (wMl 0 (by decide)) wM0 8 (by decide) lk_X9_whyNotPlace_31 (v := .ref (ad 7)) rfl dX9_whyNotPlace_110 ?_
    refine lv_aload_n hx hb dX9_whyNotPlace_113 rfl (lv_at hl 3 rfl) ?_
    refine r_get hC hw rk9 in_X9_whyNotPlace_9 0 (wMl 0 (by decide)) wM0 31 (by decide) lk_X9_whyNotPlace_126 (v := .int (t 1)) rfl dX9_whyNotPlace_114 ?_
    refine r_iald hC hw 7 (wMl 7 (by decide)) wM7 (by assumption) dX9_whyNotPlace_117 ?_
    refine lv_if_ne (tgt := 123) hx hb dX9_whyNotPlace_118 (by decide) (fun c_5 => ?_) (fun c_5 => ?_)
    · refine lv_aload_n hx hb dX9_whyNotPlace_123 rfl (lv_at hl 3 rfl) ?_
      refine r_get hC hw rk9 in_X9_whyNotPlace_9 0 (wMl 0 (by decide)) wM0 8 (by decide) lk_X9_whyNotPlace_31 (v := .ref (ad 7)) rfl dX9_whyNotPlace_124 ?_
      refine lv_aload_n hx hb dX9_whyNotPlace_127 rfl (lv_at hl 3 rfl) ?_
      refine r_get hC hw rk9 in_X9_whyNotPlace_9 0 (wMl 0 (by decide)) wM0 31 (by decide) lk_X9_whyNotPlace_126 (v := .int (t 1)) rfl dX9_whyNotPlace_128 ?_
      refine r_iald hC hw 7 (wMl 7 (by decide)) wM7 (by assumption) dX9_whyNotPlace_131 ?_
      refine lv_iconst (v := 1) hx hb dX9_whyNotPlace_132 (by decide) ?_
      refine lv_isub hx hb dX9_whyNotPlace_133 ?_
      refine lv_istore (lv' := [(5, .int ((sA κ 3 (aN (t 1))) - 1)), (4, .int 8), (3, .int 0), (2, .int 8), (0, .ref (ad 0)), (1, .int 47)]) hx hb dX9_whyNotPlace_134 hl (by decide) rfl (fun ls hl => ?_)
      refine lv_aload_n hx hb dX9_whyNotPlace_136 rfl (lv_at hl 4 rfl) ?_
      refine r_get hC hw rk9 in_X9_whyNotPlace_9 0 (wMl 0 (by decide)) wM0 4 (by decide) lk_X9_whyNotPlace_16 (v := .ref (ad 3)) rfl dX9_whyNotPlace_137 ?_
      refine lv_aload_n hx hb dX9_whyNotPlace_140 rfl (lv_at hl 4 rfl) ?_
      refine r_get hC hw rk9 in_X9_whyNotPlace_9 0 (wMl 0 (by decide)) wM0 32 (by decide) lk_X9_whyNotPlace_123 (v := .int (t 2)) rfl dX9_whyNotPlace_141 ?_
      refine r_iald hC hw 3 (wMl 3 (by decide)) wM3 (by assumption) dX9_whyNotPlace_144 ?_
      refine lv_iconst (v := 0) hx hb dX9_whyNotPlace_145 (by decide) ?_
      refine lv_aload_n hx hb dX9_whyNotPlace_146 rfl (lv_at hl 4 rfl) ?_
      refine r_get hC hw rk9 in_X9_whyNotPlace_9 0 (wMl 0 (by decide)) wM0 10 (by decide) lk_X9_whyNotPlace_37 (v := .ref (ad 9)) rfl dX9_whyNotPlace_147 ?_
      refine lv_iload hx hb dX9_whyNotPlace_150 (lv_at hl 0 rfl) ?_
      refine r_iald hC hw 9 (wMl 9 (by decide)) wM9 (wf_ref hW (by assumption) (by assumption)) dX9_whyNotPlace_152 ?_
      refine lv_iconst (v := 1) hx hb dX9_whyNotPlace_153 (by decide) ?_
      refine lv_isub hx hb dX9_whyNotPlace_154 ?_
      refine r_ki hw (r_runS (rest := []) hC hw (c_X9_isIn l _ _ (sA κ 2 (aN (t 2))) 0 ((sA κ 5 (aN ((sA κ 3 (aN (t 1))) - 1))) - 1)) 3 gX9_whyNotPlace_X9_isIn rfl rfl rfl (by decide +kernel) ⟨Nat.le_of_ble_eq_true rfl, Nat.le_of_ble_eq_true rfl⟩ rfl hl.1 rfl (Nat.le_of_ble_eq_true rfl) dX9_whyNotPlace_155 ⟨Nat.le_of_ble_eq_true rfl, Nat.le_of_ble_eq_true rfl⟩) (fun r_7 u_8 H locs h_6 hw => ?_)
      by_cases c_9 : pIn (sA κ 2 (aN (t 2))) 0 ((sA κ 5 (aN ((sA κ 3 (aN (t 1))) - 1))) - 1)
      · rw [if_pos c_9] at h_6
        subst h_6
        refine lv_if_ne (tgt := 163) hx hb dX9_whyNotPlace_158 (by decide) (fun _ => ?_) (fun c_ => absurd c_ (by decide))
        refine lv_iload_n hx hb dX9_whyNotPlace_163 rfl (lv_at hl 2 rfl) ?_
        refine lv_if_eq (tgt := 210) hx hb dX9_whyNotPlace_164 (by decide) (fun _ => ?_) (fun c_ => absurd (by decide) c_)
        refine lv_iconst (v := 0) hx hb dX9_whyNotPlace_210 (by decide) ?_
        refine lv_istore (lv' := [(6, .int 0), (5, .int ((sA κ 3 (aN (t 1))) - 1)), (4, .int 8), (3, .int 0), (2, .int 8), (0, .ref (ad 0)), (1, .int 47)]) hx hb dX9_whyNotPlace_211 hl (by decide) rfl (fun ls hl => ?_)
        refine lv_iload hx hb dX9_whyNotPlace_213 (lv_at hl 0 rfl) ?_
        refine lv_if_eq (tgt := 234) hx hb dX9_whyNotPlace_215 (by decide) (fun _ => ?_) (fun c_ => absurd (by decide) c_)
        refine lv_iconst (v := 0) hx hb dX9_whyNotPlace_234 (by decide) ?_
        exact r_iret hC hr hlk hw () rfl ((if_neg c_4).trans ((if_neg c_5).trans (if_pos c_9))).symm (Nat.le_of_ble_eq_true rfl) (Nat.le_of_ble_eq_true rfl) dX9_whyNotPlace_235
      · rw [if_neg c_9] at h_6
        subst h_6
        refine lv_if_ne (tgt := 163) hx hb dX9_whyNotPlace_158 (by decide) (fun c_ => absurd (by decide) c_) (fun _ => ?_)
        refine lv_iconst (v := 2) hx hb dX9_whyNotPlace_161 (by decide) ?_
        exact r_iret hC hr hlk hw () rfl ((if_neg c_4).trans ((if_neg c_5).trans (if_neg c_9))).symm (Nat.le_of_ble_eq_true rfl) (Nat.le_of_ble_eq_true rfl) dX9_whyNotPlace_162
    · refine lv_iconst (v := 1) hx hb dX9_whyNotPlace_121 (by decide) ?_
      exact r_iret hC hr hlk hw () rfl ((if_neg c_4).trans (if_pos c_5)).symm (Nat.le_of_ble_eq_true rfl) (Nat.le_of_ble_eq_true rfl) dX9_whyNotPlace_122

set_option maxHeartbeats 4000000 in
set_option maxRecDepth 100000 in
theorem c_X9_whyNotPlace_48 (l : Launch) {D : va_G} {q : Nat → ClassId} {ad : Nat → Nat} {κ : KS} {t : Nat → Int32} (sz : Nat) (hs : okStep 48 (t 0) (t 1) (t 2)) (hW : WFm κ) : Met l yX9_whyNotPlace wsX9_whyNotPlace (rmz 3 63) (va_Pc [.ref (ad 0), .int 48] (rPre D q (wM q ad κ t) sz)) (va_Qi (fun (r : Int32) (u : Unit) => r = why κ 48 (t 0) (t 1) (t 2)) (fun (u : Unit) tt => rPo D (rA (wM q ad κ t) sz) (wM q ad κ t) tt) (rA (wM q ad κ t) sz)) 0 0 (rA (wM q ad κ t) sz) := by
  have hi0 : vp_in (t 0) 8 := hs.1
  have hi1 : vp_in (t 1) 8 := hs.2.1
  have hi2 : vp_in (t 2) 8 := hs.2.2
  refine r_start (cc := cX9_whyNotPlace) (maxL := 7) (ret := (some .int)) (by decide) rfl (Nat.le_of_ble_eq_true rfl) ?_
  intro p e s m below meth c ls hC hr hlk hnm hsz hw hl
  have hx := hC.1
  have hb := hC.2.1
  have hl : lv_has ls 7 [(0, .ref (ad 0)), (1, .int 48)] := hl
  refine lv_iload_n hx hb dX9_whyNotPlace_0 rfl (lv_at hl 1 rfl) ?_
  refine lv_bipush (v := 39) hx hb dX9_whyNotPlace_1 (by decide) ?_
  refine lv_isub hx hb dX9_whyNotPlace_3 ?_
  refine r_topi (x := 48 - 39) (y := 9) (by decide) ?_
  refine lv_bipush (v := 10) hx hb dX9_whyNotPlace_4 (by decide) ?_
  refine lv_irem hx hb dX9_whyNotPlace_6 (by decide) ?_
  refine r_topi (x := 9 - 9 / 10 * 10) (y := 9) (by decide) ?_
  refine lv_istore_n (lv' := [(2, .int 9), (0, .ref (ad 0)), (1, .int 48)]) hx hb dX9_whyNotPlace_7 rfl hl (by decide) rfl (fun ls hl => ?_)
  refine lv_iload_n hx hb dX9_whyNotPlace_8 rfl (lv_at hl 2 rfl) ?_
  refine lv_bipush (v := 49) hx hb dX9_whyNotPlace_9 (by decide) ?_
  refine lv_icmp_lt (tgt := 18) hx hb dX9_whyNotPlace_11 (by decide) (fun _ => ?_) (fun c_ => absurd (by decide) c_)
  refine lv_iconst (v := 0) hx hb dX9_whyNotPlace_18 (by decide) ?_
  refine lv_istore_n (lv' := [(3, .int 0), (2, .int 9), (0, .ref (ad 0)), (1, .int 48)]) hx hb dX9_whyNotPlace_19 rfl hl (by decide) rfl (fun ls hl => ?_)
  refine lv_iload_n hx hb dX9_whyNotPlace_20 rfl (lv_at hl 1 rfl) ?_
  refine lv_bipush (v := 9) hx hb dX9_whyNotPlace_21 (by decide) ?_
  refine lv_icmp_ge (tgt := 30) hx hb dX9_whyNotPlace_23 (by decide) (fun _ => ?_) (fun c_ => absurd (by decide) c_)
  refine lv_bipush (v := 10) hx hb dX9_whyNotPlace_30 (by decide) ?_
  refine lv_istore (lv' := [(4, .int 10), (3, .int 0), (2, .int 9), (0, .ref (ad 0)), (1, .int 48)]) hx hb dX9_whyNotPlace_32 hl (by decide) rfl (fun ls hl => ?_)
  refine lv_aload_n hx hb dX9_whyNotPlace_34 rfl (lv_at hl 3 rfl) ?_
  refine lv_aload_n hx hb dX9_whyNotPlace_35 rfl (lv_at hl 3 rfl) ?_
  refine r_get hC hw rk9 in_X9_whyNotPlace_9 0 (wMl 0 (by decide)) wM0 8 (by decide) lk_X9_whyNotPlace_31 (v := .ref (ad 7)) rfl dX9_whyNotPlace_36 ?_
  refine lv_aload_n hx hb dX9_whyNotPlace_39 rfl (lv_at hl 3 rfl) ?_
  refine r_get hC hw rk9 in_X9_whyNotPlace_9 0 (wMl 0 (by decide)) wM0 31 (by decide) lk_X9_whyNotPlace_126 (v := .int (t 1)) rfl dX9_whyNotPlace_40 ?_
  refine r_iald hC hw 7 (wMl 7 (by decide)) wM7 (by assumption) dX9_whyNotPlace_43 ?_
  refine lv_iload hx hb dX9_whyNotPlace_44 (lv_at hl 0 rfl) ?_
  refine r_ki hw (r_runV (rest := []) hC hw 0 (c_X9_isWrong_10 l _ (sA κ 3 (aN (t 1))) (fun hn => wf_ref hW (by assumption) hn)) rk9 (wMl 0 (by decide)) wM0 2 gX9_whyNotPlace_X9_isWrong rfl rfl rfl (by decide +kernel) ⟨Nat.le_of_ble_eq_true rfl, Nat.le_of_ble_eq_true rfl⟩ rfl hl.1 rfl (Nat.le_of_ble_eq_true rfl) dX9_whyNotPlace_46 ⟨Nat.le_of_ble_eq_true rfl, Nat.le_of_ble_eq_true rfl⟩) (fun r_2 u_3 H locs h_1 hw => ?_)
  by_cases c_4 : pWrong κ (sA κ 3 (aN (t 1))) 10
  · rw [if_pos c_4] at h_1
    subst h_1
    refine lv_if_ne (tgt := 107) hx hb dX9_whyNotPlace_49 (by decide) (fun _ => ?_) (fun c_ => absurd c_ (by decide))
    refine lv_iconst (v := 4) hx hb dX9_whyNotPlace_107 (by decide) ?_
    exact r_iret hC hr hlk hw () rfl (if_pos c_4).symm (Nat.le_of_ble_eq_true rfl) (Nat.le_of_ble_eq_true rfl) dX9_whyNotPlace_108
  · rw [if_neg c_4] at h_1
    subst h_1
    refine lv_if_ne (tgt := 107) hx hb dX9_whyNotPlace_49 (by decide) (fun c_ => absurd (by decide) c_) (fun _ => ?_)
    refine lv_iload_n hx hb dX9_whyNotPlace_52 rfl (lv_at hl 1 rfl) ?_
    refine lv_if_eq (tgt := 80) hx hb dX9_whyNotPlace_53 (by decide) (fun _ => ?_) (fun c_ => absurd (by decide) c_)
    refine lv_iload_n hx hb dX9_whyNotPlace_80 rfl (lv_at hl 1 rfl) ?_
    refine lv_if_eq (tgt := 109) hx hb dX9_whyNotPlace_81 (by decide) (fun _ => ?_) (fun c_ => absurd (by decide) c_)
    refine lv_aload_n hx hb dX9_whyNotPlace_109 rfl (lv_at hl 3 rfl) ?_
    refine r_get hC hw rk9 in_X9_whyNotPlace_9 0 (wMl 0 (by decide)) wM0 8 (by decide) lk_X9_whyNotPlace_31 (v := .ref (ad 7)) rfl dX9_whyNotPlace_110 ?_
    refine lv_aload_n hx hb dX9_whyNotPlace_113 rfl (lv_at hl 3 rfl) ?_
    refine r_get hC hw rk9 in_X9_whyNotPlace_9 0 (wMl 0 (by decide)) wM0 31 (by decide) lk_X9_whyNotPlace_126 (v := .int (t 1)) rfl dX9_whyNotPlace_114 ?_
    refine r_iald hC hw 7 (wMl 7 (by decide)) wM7 (by assumption) dX9_whyNotPlace_117 ?_
    refine lv_if_ne (tgt := 123) hx hb dX9_whyNotPlace_118 (by decide) (fun c_5 => ?_) (fun c_5 => ?_)
    · refine lv_aload_n hx hb dX9_whyNotPlace_123 rfl (lv_at hl 3 rfl) ?_
      refine r_get hC hw rk9 in_X9_whyNotPlace_9 0 (wMl 0 (by decide)) wM0 8 (by decide) lk_X9_whyNotPlace_31 (v := .ref (ad 7)) rfl dX9_whyNotPlace_124 ?_
      refine lv_aload_n hx hb dX9_whyNotPlace_127 rfl (lv_at hl 3 rfl) ?_
      refine r_get hC hw rk9 in_X9_whyNotPlace_9 0 (wMl 0 (by decide)) wM0 31 (by decide) lk_X9_whyNotPlace_126 (v := .int (t 1)) rfl dX9_whyNotPlace_128 ?_
      refine r_iald hC hw 7 (wMl 7 (by decide)) wM7 (by assumption) dX9_whyNotPlace_131 ?_
      refine lv_iconst (v := 1) hx hb dX9_whyNotPlace_132 (by decide) ?_
      refine lv_isub hx hb dX9_whyNotPlace_133 ?_
      refine lv_istore (lv' := [(5, .int ((sA κ 3 (aN (t 1))) - 1)), (4, .int 10), (3, .int 0), (2, .int 9), (0, .ref (ad 0)), (1, .int 48)]) hx hb dX9_whyNotPlace_134 hl (by decide) rfl (fun ls hl => ?_)
      refine lv_aload_n hx hb dX9_whyNotPlace_136 rfl (lv_at hl 4 rfl) ?_
      refine r_get hC hw rk9 in_X9_whyNotPlace_9 0 (wMl 0 (by decide)) wM0 4 (by decide) lk_X9_whyNotPlace_16 (v := .ref (ad 3)) rfl dX9_whyNotPlace_137 ?_
      refine lv_aload_n hx hb dX9_whyNotPlace_140 rfl (lv_at hl 4 rfl) ?_
      refine r_get hC hw rk9 in_X9_whyNotPlace_9 0 (wMl 0 (by decide)) wM0 32 (by decide) lk_X9_whyNotPlace_123 (v := .int (t 2)) rfl dX9_whyNotPlace_141 ?_
      refine r_iald hC hw 3 (wMl 3 (by decide)) wM3 (by assumption) dX9_whyNotPlace_144 ?_
      refine lv_iconst (v := 0) hx hb dX9_whyNotPlace_145 (by decide) ?_
      refine lv_aload_n hx hb dX9_whyNotPlace_146 rfl (lv_at hl 4 rfl) ?_
      refine r_get hC hw rk9 in_X9_whyNotPlace_9 0 (wMl 0 (by decide)) wM0 10 (by decide) lk_X9_whyNotPlace_37 (v := .ref (ad 9)) rfl dX9_whyNotPlace_147 ?_
      refine lv_iload hx hb dX9_whyNotPlace_150 (lv_at hl 0 rfl) ?_
      refine r_iald hC hw 9 (wMl 9 (by decide)) wM9 (wf_ref hW (by assumption) (by assumption)) dX9_whyNotPlace_152 ?_
      refine lv_iconst (v := 1) hx hb dX9_whyNotPlace_153 (by decide) ?_
      refine lv_isub hx hb dX9_whyNotPlace_154 ?_
      refine r_ki hw (r_runS (rest := []) hC hw (c_X9_isIn l _ _ (sA κ 2 (aN (t 2))) 0 ((sA κ 5 (aN ((sA κ 3 (aN (t 1))) - 1))) - 1)) 3 gX9_whyNotPlace_X9_isIn rfl rfl rfl (by decide +kernel) ⟨Nat.le_of_ble_eq_true rfl, Nat.le_of_ble_eq_true rfl⟩ rfl hl.1 rfl (Nat.le_of_ble_eq_true rfl) dX9_whyNotPlace_155 ⟨Nat.le_of_ble_eq_true rfl, Nat.le_of_ble_eq_true rfl⟩) (fun r_7 u_8 H locs h_6 hw => ?_)
      by_cases c_9 : pIn (sA κ 2 (aN (t 2))) 0 ((sA κ 5 (aN ((sA κ 3 (aN (t 1))) - 1))) - 1)
      · rw [if_pos c_9] at h_6
        subst h_6
        refine lv_if_ne (tgt := 163) hx hb dX9_whyNotPlace_158 (by decide) (fun _ => ?_) (fun c_ => absurd c_ (by decide))
        refine lv_iload_n hx hb dX9_whyNotPlace_163 rfl (lv_at hl 2 rfl) ?_
        refine lv_if_eq (tgt := 210) hx hb dX9_whyNotPlace_164 (by decide) (fun _ => ?_) (fun c_ => absurd (by decide) c_)
        refine lv_iconst (v := 0) hx hb dX9_whyNotPlace_210 (by decide) ?_
        refine lv_istore (lv' := [(6, .int 0), (5, .int ((sA κ 3 (aN (t 1))) - 1)), (4, .int 10), (3, .int 0), (2, .int 9), (0, .ref (ad 0)), (1, .int 48)]) hx hb dX9_whyNotPlace_211 hl (by decide) rfl (fun ls hl => ?_)
        refine lv_iload hx hb dX9_whyNotPlace_213 (lv_at hl 0 rfl) ?_
        refine lv_if_eq (tgt := 234) hx hb dX9_whyNotPlace_215 (by decide) (fun _ => ?_) (fun c_ => absurd (by decide) c_)
        refine lv_iconst (v := 0) hx hb dX9_whyNotPlace_234 (by decide) ?_
        exact r_iret hC hr hlk hw () rfl ((if_neg c_4).trans ((if_neg c_5).trans (if_pos c_9))).symm (Nat.le_of_ble_eq_true rfl) (Nat.le_of_ble_eq_true rfl) dX9_whyNotPlace_235
      · rw [if_neg c_9] at h_6
        subst h_6
        refine lv_if_ne (tgt := 163) hx hb dX9_whyNotPlace_158 (by decide) (fun c_ => absurd (by decide) c_) (fun _ => ?_)
        refine lv_iconst (v := 2) hx hb dX9_whyNotPlace_161 (by decide) ?_
        exact r_iret hC hr hlk hw () rfl ((if_neg c_4).trans ((if_neg c_5).trans (if_neg c_9))).symm (Nat.le_of_ble_eq_true rfl) (Nat.le_of_ble_eq_true rfl) dX9_whyNotPlace_162
    · refine lv_iconst (v := 1) hx hb dX9_whyNotPlace_121 (by decide) ?_
      exact r_iret hC hr hlk hw () rfl ((if_neg c_4).trans (if_pos c_5)).symm (Nat.le_of_ble_eq_true rfl) (Nat.le_of_ble_eq_true rfl) dX9_whyNotPlace_122

set_option maxHeartbeats 4000000 in
set_option maxRecDepth 100000 in
theorem c_X9_whyNotPlace_49 (l : Launch) {D : va_G} {q : Nat → ClassId} {ad : Nat → Nat} {κ : KS} {t : Nat → Int32} (sz : Nat) (hs : okStep 49 (t 0) (t 1) (t 2)) (hW : WFm κ) : Met l yX9_whyNotPlace wsX9_whyNotPlace (rmz 3 63) (va_Pc [.ref (ad 0), .int 49] (rPre D q (wM q ad κ t) sz)) (va_Qi (fun (r : Int32) (u : Unit) => r = why κ 49 (t 0) (t 1) (t 2)) (fun (u : Unit) tt => rPo D (rA (wM q ad κ t) sz) (wM q ad κ t) tt) (rA (wM q ad κ t) sz)) 0 0 (rA (wM q ad κ t) sz) := by
  have hi0 : vp_in (t 0) 8 := hs.1
  have hi1 : vp_in (t 1) 8 := hs.2.1
  have hi2 : vp_in (t 2) 8 := hs.2.2
  refine r_start (cc := cX9_whyNotPlace) (maxL := 7) (ret := (some .int)) (by decide) rfl (Nat.le_of_ble_eq_true rfl) ?_
  intro p e s m below meth c ls hC hr hlk hnm hsz hw hl
  have hx := hC.1
  have hb := hC.2.1
  have hl : lv_has ls 7 [(0, .ref (ad 0)), (1, .int 49)] := hl
  refine lv_iload_n hx hb dX9_whyNotPlace_0 rfl (lv_at hl 1 rfl) ?_
  refine lv_bipush (v := 39) hx hb dX9_whyNotPlace_1 (by decide) ?_
  refine lv_isub hx hb dX9_whyNotPlace_3 ?_
  refine r_topi (x := 49 - 39) (y := 10) (by decide) ?_
  refine lv_bipush (v := 10) hx hb dX9_whyNotPlace_4 (by decide) ?_
  refine lv_irem hx hb dX9_whyNotPlace_6 (by decide) ?_
  refine r_topi (x := 10 - 10 / 10 * 10) (y := 0) (by decide) ?_
  refine lv_istore_n (lv' := [(2, .int 0), (0, .ref (ad 0)), (1, .int 49)]) hx hb dX9_whyNotPlace_7 rfl hl (by decide) rfl (fun ls hl => ?_)
  refine lv_iload_n hx hb dX9_whyNotPlace_8 rfl (lv_at hl 2 rfl) ?_
  refine lv_bipush (v := 49) hx hb dX9_whyNotPlace_9 (by decide) ?_
  refine lv_icmp_lt (tgt := 18) hx hb dX9_whyNotPlace_11 (by decide) (fun c_ => absurd c_ (by decide)) (fun _ => ?_)
  refine lv_iconst (v := 1) hx hb dX9_whyNotPlace_14 (by decide) ?_
  refine lv_goto (tgt := 19) hx hb dX9_whyNotPlace_15 (by decide) ?_
  refine lv_istore_n (lv' := [(3, .int 1), (2, .int 0), (0, .ref (ad 0)), (1, .int 49)]) hx hb dX9_whyNotPlace_19 rfl hl (by decide) rfl (fun ls hl => ?_)
  refine lv_iload_n hx hb dX9_whyNotPlace_20 rfl (lv_at hl 1 rfl) ?_
  refine lv_bipush (v := 9) hx hb dX9_whyNotPlace_21 (by decide) ?_
  refine lv_icmp_ge (tgt := 30) hx hb dX9_whyNotPlace_23 (by decide) (fun c_ => absurd c_ (by decide)) (fun _ => ?_)
  refine lv_iload_n hx hb dX9_whyNotPlace_26 rfl (lv_at hl 1 rfl) ?_
  refine lv_goto (tgt := 32) hx hb dX9_whyNotPlace_27 (by decide) ?_
  refine lv_istore (lv' := [(4, .int 0), (3, .int 1), (2, .int 0), (0, .ref (ad 0)), (1, .int 49)]) hx hb dX9_whyNotPlace_32 hl (by decide) rfl (fun ls hl => ?_)
  refine lv_aload_n hx hb dX9_whyNotPlace_34 rfl (lv_at hl 3 rfl) ?_
  refine lv_aload_n hx hb dX9_whyNotPlace_35 rfl (lv_at hl 3 rfl) ?_
  refine r_get hC hw rk9 in_X9_whyNotPlace_9 0 (wMl 0 (by decide)) wM0 8 (by decide) lk_X9_whyNotPlace_31 (v := .ref (ad 7)) rfl dX9_whyNotPlace_36 ?_
  refine lv_aload_n hx hb dX9_whyNotPlace_39 rfl (lv_at hl 3 rfl) ?_
  refine r_get hC hw rk9 in_X9_whyNotPlace_9 0 (wMl 0 (by decide)) wM0 31 (by decide) lk_X9_whyNotPlace_126 (v := .int (t 1)) rfl dX9_whyNotPlace_40 ?_
  refine r_iald hC hw 7 (wMl 7 (by decide)) wM7 (by assumption) dX9_whyNotPlace_43 ?_
  refine lv_iload hx hb dX9_whyNotPlace_44 (lv_at hl 0 rfl) ?_
  refine r_ki hw (r_runV (rest := []) hC hw 0 (c_X9_isWrong_0 l _ (sA κ 3 (aN (t 1))) (fun hn => wf_ref hW (by assumption) hn)) rk9 (wMl 0 (by decide)) wM0 2 gX9_whyNotPlace_X9_isWrong rfl rfl rfl (by decide +kernel) ⟨Nat.le_of_ble_eq_true rfl, Nat.le_of_ble_eq_true rfl⟩ rfl hl.1 rfl (Nat.le_of_ble_eq_true rfl) dX9_whyNotPlace_46 ⟨Nat.le_of_ble_eq_true rfl, Nat.le_of_ble_eq_true rfl⟩) (fun r_2 u_3 H locs h_1 hw => ?_)
  by_cases c_4 : pWrong κ (sA κ 3 (aN (t 1))) 0
  · rw [if_pos c_4] at h_1
    subst h_1
    refine lv_if_ne (tgt := 107) hx hb dX9_whyNotPlace_49 (by decide) (fun _ => ?_) (fun c_ => absurd c_ (by decide))
    refine lv_iconst (v := 4) hx hb dX9_whyNotPlace_107 (by decide) ?_
    exact r_iret hC hr hlk hw () rfl (if_pos c_4).symm (Nat.le_of_ble_eq_true rfl) (Nat.le_of_ble_eq_true rfl) dX9_whyNotPlace_108
  · rw [if_neg c_4] at h_1
    subst h_1
    refine lv_if_ne (tgt := 107) hx hb dX9_whyNotPlace_49 (by decide) (fun c_ => absurd (by decide) c_) (fun _ => ?_)
    refine lv_iload_n hx hb dX9_whyNotPlace_52 rfl (lv_at hl 1 rfl) ?_
    refine lv_if_eq (tgt := 80) hx hb dX9_whyNotPlace_53 (by decide) (fun c_ => absurd c_ (by decide)) (fun _ => ?_)
    refine lv_iload_n hx hb dX9_whyNotPlace_56 rfl (lv_at hl 2 rfl) ?_
    refine lv_bipush (v := 8) hx hb dX9_whyNotPlace_57 (by decide) ?_
    refine lv_icmp_ne (tgt := 80) hx hb dX9_whyNotPlace_59 (by decide) (fun _ => ?_) (fun c_ => absurd c_ (by decide))
    refine lv_iload_n hx hb dX9_whyNotPlace_80 rfl (lv_at hl 1 rfl) ?_
    refine lv_if_eq (tgt := 109) hx hb dX9_whyNotPlace_81 (by decide) (fun c_ => absurd c_ (by decide)) (fun _ => ?_)
    refine lv_iload_n hx hb dX9_whyNotPlace_84 rfl (lv_at hl 2 rfl) ?_
    refine lv_bipush (v := 9) hx hb dX9_whyNotPlace_85 (by decide) ?_
    refine lv_icmp_ne (tgt := 109) hx hb dX9_whyNotPlace_87 (by decide) (fun _ => ?_) (fun c_ => absurd c_ (by decide))
    refine lv_aload_n hx hb dX9_whyNotPlace_109 rfl (lv_at hl 3 rfl) ?_
    refine r_get hC hw rk9 in_X9_whyNotPlace_9 0 (wMl 0 (by decide)) wM0 8 (by decide) lk_X9_whyNotPlace_31 (v := .ref (ad 7)) rfl dX9_whyNotPlace_110 ?_
    refine lv_aload_n hx hb dX9_whyNotPlace_113 rfl (lv_at hl 3 rfl) ?_
    refine r_get hC hw rk9 in_X9_whyNotPlace_9 0 (wMl 0 (by decide)) wM0 31 (by decide) lk_X9_whyNotPlace_126 (v := .int (t 1)) rfl dX9_whyNotPlace_114 ?_
    refine r_iald hC hw 7 (wMl 7 (by decide)) wM7 (by assumption) dX9_whyNotPlace_117 ?_
    refine lv_if_ne (tgt := 123) hx hb dX9_whyNotPlace_118 (by decide) (fun c_5 => ?_) (fun c_5 => ?_)
    · refine lv_aload_n hx hb dX9_whyNotPlace_123 rfl (lv_at hl 3 rfl) ?_
      refine r_get hC hw rk9 in_X9_whyNotPlace_9 0 (wMl 0 (by decide)) wM0 8 (by decide) lk_X9_whyNotPlace_31 (v := .ref (ad 7)) rfl dX9_whyNotPlace_124 ?_
      refine lv_aload_n hx hb dX9_whyNotPlace_127 rfl (lv_at hl 3 rfl) ?_
      refine r_get hC hw rk9 in_X9_whyNotPlace_9 0 (wMl 0 (by decide)) wM0 31 (by decide) lk_X9_whyNotPlace_126 (v := .int (t 1)) rfl dX9_whyNotPlace_128 ?_
      refine r_iald hC hw 7 (wMl 7 (by decide)) wM7 (by assumption) dX9_whyNotPlace_131 ?_
      refine lv_iconst (v := 1) hx hb dX9_whyNotPlace_132 (by decide) ?_
      refine lv_isub hx hb dX9_whyNotPlace_133 ?_
      refine lv_istore (lv' := [(5, .int ((sA κ 3 (aN (t 1))) - 1)), (4, .int 0), (3, .int 1), (2, .int 0), (0, .ref (ad 0)), (1, .int 49)]) hx hb dX9_whyNotPlace_134 hl (by decide) rfl (fun ls hl => ?_)
      refine lv_aload_n hx hb dX9_whyNotPlace_136 rfl (lv_at hl 4 rfl) ?_
      refine r_get hC hw rk9 in_X9_whyNotPlace_9 0 (wMl 0 (by decide)) wM0 4 (by decide) lk_X9_whyNotPlace_16 (v := .ref (ad 3)) rfl dX9_whyNotPlace_137 ?_
      refine lv_aload_n hx hb dX9_whyNotPlace_140 rfl (lv_at hl 4 rfl) ?_
      refine r_get hC hw rk9 in_X9_whyNotPlace_9 0 (wMl 0 (by decide)) wM0 32 (by decide) lk_X9_whyNotPlace_123 (v := .int (t 2)) rfl dX9_whyNotPlace_141 ?_
      refine r_iald hC hw 3 (wMl 3 (by decide)) wM3 (by assumption) dX9_whyNotPlace_144 ?_
      refine lv_iconst (v := 0) hx hb dX9_whyNotPlace_145 (by decide) ?_
      refine lv_aload_n hx hb dX9_whyNotPlace_146 rfl (lv_at hl 4 rfl) ?_
      refine r_get hC hw rk9 in_X9_whyNotPlace_9 0 (wMl 0 (by decide)) wM0 10 (by decide) lk_X9_whyNotPlace_37 (v := .ref (ad 9)) rfl dX9_whyNotPlace_147 ?_
      refine lv_iload hx hb dX9_whyNotPlace_150 (lv_at hl 0 rfl) ?_
      refine r_iald hC hw 9 (wMl 9 (by decide)) wM9 (wf_ref hW (by assumption) (by assumption)) dX9_whyNotPlace_152 ?_
      refine lv_iconst (v := 1) hx hb dX9_whyNotPlace_153 (by decide) ?_
      refine lv_isub hx hb dX9_whyNotPlace_154 ?_
      refine r_ki hw (r_runS (rest := []) hC hw (c_X9_isIn l _ _ (sA κ 2 (aN (t 2))) 0 ((sA κ 5 (aN ((sA κ 3 (aN (t 1))) - 1))) - 1)) 3 gX9_whyNotPlace_X9_isIn rfl rfl rfl (by decide +kernel) ⟨Nat.le_of_ble_eq_true rfl, Nat.le_of_ble_eq_true rfl⟩ rfl hl.1 rfl (Nat.le_of_ble_eq_true rfl) dX9_whyNotPlace_155 ⟨Nat.le_of_ble_eq_true rfl, Nat.le_of_ble_eq_true rfl⟩) (fun r_7 u_8 H locs h_6 hw => ?_)
      by_cases c_9 : pIn (sA κ 2 (aN (t 2))) 0 ((sA κ 5 (aN ((sA κ 3 (aN (t 1))) - 1))) - 1)
      · rw [if_pos c_9] at h_6
        subst h_6
        refine lv_if_ne (tgt := 163) hx hb dX9_whyNotPlace_158 (by decide) (fun _ => ?_) (fun c_ => absurd c_ (by decide))
        refine lv_iload_n hx hb dX9_whyNotPlace_163 rfl (lv_at hl 2 rfl) ?_
        refine lv_if_eq (tgt := 210) hx hb dX9_whyNotPlace_164 (by decide) (fun c_ => absurd c_ (by decide)) (fun _ => ?_)
        refine lv_iload_n hx hb dX9_whyNotPlace_167 rfl (lv_at hl 3 rfl) ?_
        refine lv_bipush (v := 8) hx hb dX9_whyNotPlace_168 (by decide) ?_
        refine lv_icmp_ne (tgt := 210) hx hb dX9_whyNotPlace_170 (by decide) (fun _ => ?_) (fun c_ => absurd c_ (by decide))
        refine lv_iconst (v := 0) hx hb dX9_whyNotPlace_210 (by decide) ?_
        refine lv_istore (lv' := [(6, .int 0), (5, .int ((sA κ 3 (aN (t 1))) - 1)), (4, .int 0), (3, .int 1), (2, .int 0), (0, .ref (ad 0)), (1, .int 49)]) hx hb dX9_whyNotPlace_211 hl (by decide) rfl (fun ls hl => ?_)
        refine lv_iload hx hb dX9_whyNotPlace_213 (lv_at hl 0 rfl) ?_
        refine lv_if_eq (tgt := 234) hx hb dX9_whyNotPlace_215 (by decide) (fun _ => ?_) (fun c_ => absurd (by decide) c_)
        refine lv_iconst (v := 0) hx hb dX9_whyNotPlace_234 (by decide) ?_
        exact r_iret hC hr hlk hw () rfl ((if_neg c_4).trans ((if_neg c_5).trans (if_pos c_9))).symm (Nat.le_of_ble_eq_true rfl) (Nat.le_of_ble_eq_true rfl) dX9_whyNotPlace_235
      · rw [if_neg c_9] at h_6
        subst h_6
        refine lv_if_ne (tgt := 163) hx hb dX9_whyNotPlace_158 (by decide) (fun c_ => absurd (by decide) c_) (fun _ => ?_)
        refine lv_iconst (v := 2) hx hb dX9_whyNotPlace_161 (by decide) ?_
        exact r_iret hC hr hlk hw () rfl ((if_neg c_4).trans ((if_neg c_5).trans (if_neg c_9))).symm (Nat.le_of_ble_eq_true rfl) (Nat.le_of_ble_eq_true rfl) dX9_whyNotPlace_162
    · refine lv_iconst (v := 1) hx hb dX9_whyNotPlace_121 (by decide) ?_
      exact r_iret hC hr hlk hw () rfl ((if_neg c_4).trans (if_pos c_5)).symm (Nat.le_of_ble_eq_true rfl) (Nat.le_of_ble_eq_true rfl) dX9_whyNotPlace_122

set_option maxHeartbeats 4000000 in
set_option maxRecDepth 100000 in
theorem c_X9_whyNotPlace_50 (l : Launch) {D : va_G} {q : Nat → ClassId} {ad : Nat → Nat} {κ : KS} {t : Nat → Int32} (sz : Nat) (hs : okStep 50 (t 0) (t 1) (t 2)) (hW : WFm κ) : Met l yX9_whyNotPlace wsX9_whyNotPlace (rmz 3 63) (va_Pc [.ref (ad 0), .int 50] (rPre D q (wM q ad κ t) sz)) (va_Qi (fun (r : Int32) (u : Unit) => r = why κ 50 (t 0) (t 1) (t 2)) (fun (u : Unit) tt => rPo D (rA (wM q ad κ t) sz) (wM q ad κ t) tt) (rA (wM q ad κ t) sz)) 0 0 (rA (wM q ad κ t) sz) := by
  have hi0 : vp_in (t 0) 8 := hs.1
  have hi1 : vp_in (t 1) 8 := hs.2.1
  have hi2 : vp_in (t 2) 8 := hs.2.2
  refine r_start (cc := cX9_whyNotPlace) (maxL := 7) (ret := (some .int)) (by decide) rfl (Nat.le_of_ble_eq_true rfl) ?_
  intro p e s m below meth c ls hC hr hlk hnm hsz hw hl
  have hx := hC.1
  have hb := hC.2.1
  have hl : lv_has ls 7 [(0, .ref (ad 0)), (1, .int 50)] := hl
  refine lv_iload_n hx hb dX9_whyNotPlace_0 rfl (lv_at hl 1 rfl) ?_
  refine lv_bipush (v := 39) hx hb dX9_whyNotPlace_1 (by decide) ?_
  refine lv_isub hx hb dX9_whyNotPlace_3 ?_
  refine r_topi (x := 50 - 39) (y := 11) (by decide) ?_
  refine lv_bipush (v := 10) hx hb dX9_whyNotPlace_4 (by decide) ?_
  refine lv_irem hx hb dX9_whyNotPlace_6 (by decide) ?_
  refine r_topi (x := 11 - 11 / 10 * 10) (y := 1) (by decide) ?_
  refine lv_istore_n (lv' := [(2, .int 1), (0, .ref (ad 0)), (1, .int 50)]) hx hb dX9_whyNotPlace_7 rfl hl (by decide) rfl (fun ls hl => ?_)
  refine lv_iload_n hx hb dX9_whyNotPlace_8 rfl (lv_at hl 2 rfl) ?_
  refine lv_bipush (v := 49) hx hb dX9_whyNotPlace_9 (by decide) ?_
  refine lv_icmp_lt (tgt := 18) hx hb dX9_whyNotPlace_11 (by decide) (fun c_ => absurd c_ (by decide)) (fun _ => ?_)
  refine lv_iconst (v := 1) hx hb dX9_whyNotPlace_14 (by decide) ?_
  refine lv_goto (tgt := 19) hx hb dX9_whyNotPlace_15 (by decide) ?_
  refine lv_istore_n (lv' := [(3, .int 1), (2, .int 1), (0, .ref (ad 0)), (1, .int 50)]) hx hb dX9_whyNotPlace_19 rfl hl (by decide) rfl (fun ls hl => ?_)
  refine lv_iload_n hx hb dX9_whyNotPlace_20 rfl (lv_at hl 1 rfl) ?_
  refine lv_bipush (v := 9) hx hb dX9_whyNotPlace_21 (by decide) ?_
  refine lv_icmp_ge (tgt := 30) hx hb dX9_whyNotPlace_23 (by decide) (fun c_ => absurd c_ (by decide)) (fun _ => ?_)
  refine lv_iload_n hx hb dX9_whyNotPlace_26 rfl (lv_at hl 1 rfl) ?_
  refine lv_goto (tgt := 32) hx hb dX9_whyNotPlace_27 (by decide) ?_
  refine lv_istore (lv' := [(4, .int 1), (3, .int 1), (2, .int 1), (0, .ref (ad 0)), (1, .int 50)]) hx hb dX9_whyNotPlace_32 hl (by decide) rfl (fun ls hl => ?_)
  refine lv_aload_n hx hb dX9_whyNotPlace_34 rfl (lv_at hl 3 rfl) ?_
  refine lv_aload_n hx hb dX9_whyNotPlace_35 rfl (lv_at hl 3 rfl) ?_
  refine r_get hC hw rk9 in_X9_whyNotPlace_9 0 (wMl 0 (by decide)) wM0 8 (by decide) lk_X9_whyNotPlace_31 (v := .ref (ad 7)) rfl dX9_whyNotPlace_36 ?_
  refine lv_aload_n hx hb dX9_whyNotPlace_39 rfl (lv_at hl 3 rfl) ?_
  refine r_get hC hw rk9 in_X9_whyNotPlace_9 0 (wMl 0 (by decide)) wM0 31 (by decide) lk_X9_whyNotPlace_126 (v := .int (t 1)) rfl dX9_whyNotPlace_40 ?_
  refine r_iald hC hw 7 (wMl 7 (by decide)) wM7 (by assumption) dX9_whyNotPlace_43 ?_
  refine lv_iload hx hb dX9_whyNotPlace_44 (lv_at hl 0 rfl) ?_
  refine r_ki hw (r_runV (rest := []) hC hw 0 (c_X9_isWrong_1 l _ (sA κ 3 (aN (t 1))) (fun hn => wf_ref hW (by assumption) hn)) rk9 (wMl 0 (by decide)) wM0 2 gX9_whyNotPlace_X9_isWrong rfl rfl rfl (by decide +kernel) ⟨Nat.le_of_ble_eq_true rfl, Nat.le_of_ble_eq_true rfl⟩ rfl hl.1 rfl (Nat.le_of_ble_eq_true rfl) dX9_whyNotPlace_46 ⟨Nat.le_of_ble_eq_true rfl, Nat.le_of_ble_eq_true rfl⟩) (fun r_2 u_3 H locs h_1 hw => ?_)
  by_cases c_4 : pWrong κ (sA κ 3 (aN (t 1))) 1
  · rw [if_pos c_4] at h_1
    subst h_1
    refine lv_if_ne (tgt := 107) hx hb dX9_whyNotPlace_49 (by decide) (fun _ => ?_) (fun c_ => absurd c_ (by decide))
    refine lv_iconst (v := 4) hx hb dX9_whyNotPlace_107 (by decide) ?_
    exact r_iret hC hr hlk hw () rfl (if_pos c_4).symm (Nat.le_of_ble_eq_true rfl) (Nat.le_of_ble_eq_true rfl) dX9_whyNotPlace_108
  · rw [if_neg c_4] at h_1
    subst h_1
    refine lv_if_ne (tgt := 107) hx hb dX9_whyNotPlace_49 (by decide) (fun c_ => absurd (by decide) c_) (fun _ => ?_)
    refine lv_iload_n hx hb dX9_whyNotPlace_52 rfl (lv_at hl 1 rfl) ?_
    refine lv_if_eq (tgt := 80) hx hb dX9_whyNotPlace_53 (by decide) (fun c_ => absurd c_ (by decide)) (fun _ => ?_)
    refine lv_iload_n hx hb dX9_whyNotPlace_56 rfl (lv_at hl 2 rfl) ?_
    refine lv_bipush (v := 8) hx hb dX9_whyNotPlace_57 (by decide) ?_
    refine lv_icmp_ne (tgt := 80) hx hb dX9_whyNotPlace_59 (by decide) (fun _ => ?_) (fun c_ => absurd c_ (by decide))
    refine lv_iload_n hx hb dX9_whyNotPlace_80 rfl (lv_at hl 1 rfl) ?_
    refine lv_if_eq (tgt := 109) hx hb dX9_whyNotPlace_81 (by decide) (fun c_ => absurd c_ (by decide)) (fun _ => ?_)
    refine lv_iload_n hx hb dX9_whyNotPlace_84 rfl (lv_at hl 2 rfl) ?_
    refine lv_bipush (v := 9) hx hb dX9_whyNotPlace_85 (by decide) ?_
    refine lv_icmp_ne (tgt := 109) hx hb dX9_whyNotPlace_87 (by decide) (fun _ => ?_) (fun c_ => absurd c_ (by decide))
    refine lv_aload_n hx hb dX9_whyNotPlace_109 rfl (lv_at hl 3 rfl) ?_
    refine r_get hC hw rk9 in_X9_whyNotPlace_9 0 (wMl 0 (by decide)) wM0 8 (by decide) lk_X9_whyNotPlace_31 (v := .ref (ad 7)) rfl dX9_whyNotPlace_110 ?_
    refine lv_aload_n hx hb dX9_whyNotPlace_113 rfl (lv_at hl 3 rfl) ?_
    refine r_get hC hw rk9 in_X9_whyNotPlace_9 0 (wMl 0 (by decide)) wM0 31 (by decide) lk_X9_whyNotPlace_126 (v := .int (t 1)) rfl dX9_whyNotPlace_114 ?_
    refine r_iald hC hw 7 (wMl 7 (by decide)) wM7 (by assumption) dX9_whyNotPlace_117 ?_
    refine lv_if_ne (tgt := 123) hx hb dX9_whyNotPlace_118 (by decide) (fun c_5 => ?_) (fun c_5 => ?_)
    · refine lv_aload_n hx hb dX9_whyNotPlace_123 rfl (lv_at hl 3 rfl) ?_
      refine r_get hC hw rk9 in_X9_whyNotPlace_9 0 (wMl 0 (by decide)) wM0 8 (by decide) lk_X9_whyNotPlace_31 (v := .ref (ad 7)) rfl dX9_whyNotPlace_124 ?_
      refine lv_aload_n hx hb dX9_whyNotPlace_127 rfl (lv_at hl 3 rfl) ?_
      refine r_get hC hw rk9 in_X9_whyNotPlace_9 0 (wMl 0 (by decide)) wM0 31 (by decide) lk_X9_whyNotPlace_126 (v := .int (t 1)) rfl dX9_whyNotPlace_128 ?_
      refine r_iald hC hw 7 (wMl 7 (by decide)) wM7 (by assumption) dX9_whyNotPlace_131 ?_
      refine lv_iconst (v := 1) hx hb dX9_whyNotPlace_132 (by decide) ?_
      refine lv_isub hx hb dX9_whyNotPlace_133 ?_
      refine lv_istore (lv' := [(5, .int ((sA κ 3 (aN (t 1))) - 1)), (4, .int 1), (3, .int 1), (2, .int 1), (0, .ref (ad 0)), (1, .int 50)]) hx hb dX9_whyNotPlace_134 hl (by decide) rfl (fun ls hl => ?_)
      refine lv_aload_n hx hb dX9_whyNotPlace_136 rfl (lv_at hl 4 rfl) ?_
      refine r_get hC hw rk9 in_X9_whyNotPlace_9 0 (wMl 0 (by decide)) wM0 4 (by decide) lk_X9_whyNotPlace_16 (v := .ref (ad 3)) rfl dX9_whyNotPlace_137 ?_
      refine lv_aload_n hx hb dX9_whyNotPlace_140 rfl (lv_at hl 4 rfl) ?_
      refine r_get hC hw rk9 in_X9_whyNotPlace_9 0 (wMl 0 (by decide)) wM0 32 (by decide) lk_X9_whyNotPlace_123 (v := .int (t 2)) rfl dX9_whyNotPlace_141 ?_
      refine r_iald hC hw 3 (wMl 3 (by decide)) wM3 (by assumption) dX9_whyNotPlace_144 ?_
      refine lv_iconst (v := 0) hx hb dX9_whyNotPlace_145 (by decide) ?_
      refine lv_aload_n hx hb dX9_whyNotPlace_146 rfl (lv_at hl 4 rfl) ?_
      refine r_get hC hw rk9 in_X9_whyNotPlace_9 0 (wMl 0 (by decide)) wM0 10 (by decide) lk_X9_whyNotPlace_37 (v := .ref (ad 9)) rfl dX9_whyNotPlace_147 ?_
      refine lv_iload hx hb dX9_whyNotPlace_150 (lv_at hl 0 rfl) ?_
      refine r_iald hC hw 9 (wMl 9 (by decide)) wM9 (wf_ref hW (by assumption) (by assumption)) dX9_whyNotPlace_152 ?_
      refine lv_iconst (v := 1) hx hb dX9_whyNotPlace_153 (by decide) ?_
      refine lv_isub hx hb dX9_whyNotPlace_154 ?_
      refine r_ki hw (r_runS (rest := []) hC hw (c_X9_isIn l _ _ (sA κ 2 (aN (t 2))) 0 ((sA κ 5 (aN ((sA κ 3 (aN (t 1))) - 1))) - 1)) 3 gX9_whyNotPlace_X9_isIn rfl rfl rfl (by decide +kernel) ⟨Nat.le_of_ble_eq_true rfl, Nat.le_of_ble_eq_true rfl⟩ rfl hl.1 rfl (Nat.le_of_ble_eq_true rfl) dX9_whyNotPlace_155 ⟨Nat.le_of_ble_eq_true rfl, Nat.le_of_ble_eq_true rfl⟩) (fun r_7 u_8 H locs h_6 hw => ?_)
      by_cases c_9 : pIn (sA κ 2 (aN (t 2))) 0 ((sA κ 5 (aN ((sA κ 3 (aN (t 1))) - 1))) - 1)
      · rw [if_pos c_9] at h_6
        subst h_6
        refine lv_if_ne (tgt := 163) hx hb dX9_whyNotPlace_158 (by decide) (fun _ => ?_) (fun c_ => absurd c_ (by decide))
        refine lv_iload_n hx hb dX9_whyNotPlace_163 rfl (lv_at hl 2 rfl) ?_
        refine lv_if_eq (tgt := 210) hx hb dX9_whyNotPlace_164 (by decide) (fun c_ => absurd c_ (by decide)) (fun _ => ?_)
        refine lv_iload_n hx hb dX9_whyNotPlace_167 rfl (lv_at hl 3 rfl) ?_
        refine lv_bipush (v := 8) hx hb dX9_whyNotPlace_168 (by decide) ?_
        refine lv_icmp_ne (tgt := 210) hx hb dX9_whyNotPlace_170 (by decide) (fun _ => ?_) (fun c_ => absurd c_ (by decide))
        refine lv_iconst (v := 0) hx hb dX9_whyNotPlace_210 (by decide) ?_
        refine lv_istore (lv' := [(6, .int 0), (5, .int ((sA κ 3 (aN (t 1))) - 1)), (4, .int 1), (3, .int 1), (2, .int 1), (0, .ref (ad 0)), (1, .int 50)]) hx hb dX9_whyNotPlace_211 hl (by decide) rfl (fun ls hl => ?_)
        refine lv_iload hx hb dX9_whyNotPlace_213 (lv_at hl 0 rfl) ?_
        refine lv_if_eq (tgt := 234) hx hb dX9_whyNotPlace_215 (by decide) (fun _ => ?_) (fun c_ => absurd (by decide) c_)
        refine lv_iconst (v := 0) hx hb dX9_whyNotPlace_234 (by decide) ?_
        exact r_iret hC hr hlk hw () rfl ((if_neg c_4).trans ((if_neg c_5).trans (if_pos c_9))).symm (Nat.le_of_ble_eq_true rfl) (Nat.le_of_ble_eq_true rfl) dX9_whyNotPlace_235
      · rw [if_neg c_9] at h_6
        subst h_6
        refine lv_if_ne (tgt := 163) hx hb dX9_whyNotPlace_158 (by decide) (fun c_ => absurd (by decide) c_) (fun _ => ?_)
        refine lv_iconst (v := 2) hx hb dX9_whyNotPlace_161 (by decide) ?_
        exact r_iret hC hr hlk hw () rfl ((if_neg c_4).trans ((if_neg c_5).trans (if_neg c_9))).symm (Nat.le_of_ble_eq_true rfl) (Nat.le_of_ble_eq_true rfl) dX9_whyNotPlace_162
    · refine lv_iconst (v := 1) hx hb dX9_whyNotPlace_121 (by decide) ?_
      exact r_iret hC hr hlk hw () rfl ((if_neg c_4).trans (if_pos c_5)).symm (Nat.le_of_ble_eq_true rfl) (Nat.le_of_ble_eq_true rfl) dX9_whyNotPlace_122

set_option maxHeartbeats 4000000 in
set_option maxRecDepth 100000 in
theorem c_X9_whyNotPlace_51 (l : Launch) {D : va_G} {q : Nat → ClassId} {ad : Nat → Nat} {κ : KS} {t : Nat → Int32} (sz : Nat) (hs : okStep 51 (t 0) (t 1) (t 2)) (hW : WFm κ) : Met l yX9_whyNotPlace wsX9_whyNotPlace (rmz 3 63) (va_Pc [.ref (ad 0), .int 51] (rPre D q (wM q ad κ t) sz)) (va_Qi (fun (r : Int32) (u : Unit) => r = why κ 51 (t 0) (t 1) (t 2)) (fun (u : Unit) tt => rPo D (rA (wM q ad κ t) sz) (wM q ad κ t) tt) (rA (wM q ad κ t) sz)) 0 0 (rA (wM q ad κ t) sz) := by
  have hi0 : vp_in (t 0) 8 := hs.1
  have hi1 : vp_in (t 1) 8 := hs.2.1
  have hi2 : vp_in (t 2) 8 := hs.2.2
  refine r_start (cc := cX9_whyNotPlace) (maxL := 7) (ret := (some .int)) (by decide) rfl (Nat.le_of_ble_eq_true rfl) ?_
  intro p e s m below meth c ls hC hr hlk hnm hsz hw hl
  have hx := hC.1
  have hb := hC.2.1
  have hl : lv_has ls 7 [(0, .ref (ad 0)), (1, .int 51)] := hl
  refine lv_iload_n hx hb dX9_whyNotPlace_0 rfl (lv_at hl 1 rfl) ?_
  refine lv_bipush (v := 39) hx hb dX9_whyNotPlace_1 (by decide) ?_
  refine lv_isub hx hb dX9_whyNotPlace_3 ?_
  refine r_topi (x := 51 - 39) (y := 12) (by decide) ?_
  refine lv_bipush (v := 10) hx hb dX9_whyNotPlace_4 (by decide) ?_
  refine lv_irem hx hb dX9_whyNotPlace_6 (by decide) ?_
  refine r_topi (x := 12 - 12 / 10 * 10) (y := 2) (by decide) ?_
  refine lv_istore_n (lv' := [(2, .int 2), (0, .ref (ad 0)), (1, .int 51)]) hx hb dX9_whyNotPlace_7 rfl hl (by decide) rfl (fun ls hl => ?_)
  refine lv_iload_n hx hb dX9_whyNotPlace_8 rfl (lv_at hl 2 rfl) ?_
  refine lv_bipush (v := 49) hx hb dX9_whyNotPlace_9 (by decide) ?_
  refine lv_icmp_lt (tgt := 18) hx hb dX9_whyNotPlace_11 (by decide) (fun c_ => absurd c_ (by decide)) (fun _ => ?_)
  refine lv_iconst (v := 1) hx hb dX9_whyNotPlace_14 (by decide) ?_
  refine lv_goto (tgt := 19) hx hb dX9_whyNotPlace_15 (by decide) ?_
  refine lv_istore_n (lv' := [(3, .int 1), (2, .int 2), (0, .ref (ad 0)), (1, .int 51)]) hx hb dX9_whyNotPlace_19 rfl hl (by decide) rfl (fun ls hl => ?_)
  refine lv_iload_n hx hb dX9_whyNotPlace_20 rfl (lv_at hl 1 rfl) ?_
  refine lv_bipush (v := 9) hx hb dX9_whyNotPlace_21 (by decide) ?_
  refine lv_icmp_ge (tgt := 30) hx hb dX9_whyNotPlace_23 (by decide) (fun c_ => absurd c_ (by decide)) (fun _ => ?_)
  refine lv_iload_n hx hb dX9_whyNotPlace_26 rfl (lv_at hl 1 rfl) ?_
  refine lv_goto (tgt := 32) hx hb dX9_whyNotPlace_27 (by decide) ?_
  refine lv_istore (lv' := [(4, .int 2), (3, .int 1), (2, .int 2), (0, .ref (ad 0)), (1, .int 51)]) hx hb dX9_whyNotPlace_32 hl (by decide) rfl (fun ls hl => ?_)
  refine lv_aload_n hx hb dX9_whyNotPlace_34 rfl (lv_at hl 3 rfl) ?_
  refine lv_aload_n hx hb dX9_whyNotPlace_35 rfl (lv_at hl 3 rfl) ?_
  refine r_get hC hw rk9 in_X9_whyNotPlace_9 0 (wMl 0 (by decide)) wM0 8 (by decide) lk_X9_whyNotPlace_31 (v := .ref (ad 7)) rfl dX9_whyNotPlace_36 ?_
  refine lv_aload_n hx hb dX9_whyNotPlace_39 rfl (lv_at hl 3 rfl) ?_
  refine r_get hC hw rk9 in_X9_whyNotPlace_9 0 (wMl 0 (by decide)) wM0 31 (by decide) lk_X9_whyNotPlace_126 (v := .int (t 1)) rfl dX9_whyNotPlace_40 ?_
  refine r_iald hC hw 7 (wMl 7 (by decide)) wM7 (by assumption) dX9_whyNotPlace_43 ?_
  refine lv_iload hx hb dX9_whyNotPlace_44 (lv_at hl 0 rfl) ?_
  refine r_ki hw (r_runV (rest := []) hC hw 0 (c_X9_isWrong_2 l _ (sA κ 3 (aN (t 1))) (fun hn => wf_ref hW (by assumption) hn)) rk9 (wMl 0 (by decide)) wM0 2 gX9_whyNotPlace_X9_isWrong rfl rfl rfl (by decide +kernel) ⟨Nat.le_of_ble_eq_true rfl, Nat.le_of_ble_eq_true rfl⟩ rfl hl.1 rfl (Nat.le_of_ble_eq_true rfl) dX9_whyNotPlace_46 ⟨Nat.le_of_ble_eq_true rfl, Nat.le_of_ble_eq_true rfl⟩) (fun r_2 u_3 H locs h_1 hw => ?_)
  by_cases c_4 : pWrong κ (sA κ 3 (aN (t 1))) 2
  · rw [if_pos c_4] at h_1
    subst h_1
    refine lv_if_ne (tgt := 107) hx hb dX9_whyNotPlace_49 (by decide) (fun _ => ?_) (fun c_ => absurd c_ (by decide))
    refine lv_iconst (v := 4) hx hb dX9_whyNotPlace_107 (by decide) ?_
    exact r_iret hC hr hlk hw () rfl (if_pos c_4).symm (Nat.le_of_ble_eq_true rfl) (Nat.le_of_ble_eq_true rfl) dX9_whyNotPlace_108
  · rw [if_neg c_4] at h_1
    subst h_1
    refine lv_if_ne (tgt := 107) hx hb dX9_whyNotPlace_49 (by decide) (fun c_ => absurd (by decide) c_) (fun _ => ?_)
    refine lv_iload_n hx hb dX9_whyNotPlace_52 rfl (lv_at hl 1 rfl) ?_
    refine lv_if_eq (tgt := 80) hx hb dX9_whyNotPlace_53 (by decide) (fun c_ => absurd c_ (by decide)) (fun _ => ?_)
    refine lv_iload_n hx hb dX9_whyNotPlace_56 rfl (lv_at hl 2 rfl) ?_
    refine lv_bipush (v := 8) hx hb dX9_whyNotPlace_57 (by decide) ?_
    refine lv_icmp_ne (tgt := 80) hx hb dX9_whyNotPlace_59 (by decide) (fun _ => ?_) (fun c_ => absurd c_ (by decide))
    refine lv_iload_n hx hb dX9_whyNotPlace_80 rfl (lv_at hl 1 rfl) ?_
    refine lv_if_eq (tgt := 109) hx hb dX9_whyNotPlace_81 (by decide) (fun c_ => absurd c_ (by decide)) (fun _ => ?_)
    refine lv_iload_n hx hb dX9_whyNotPlace_84 rfl (lv_at hl 2 rfl) ?_
    refine lv_bipush (v := 9) hx hb dX9_whyNotPlace_85 (by decide) ?_
    refine lv_icmp_ne (tgt := 109) hx hb dX9_whyNotPlace_87 (by decide) (fun _ => ?_) (fun c_ => absurd c_ (by decide))
    refine lv_aload_n hx hb dX9_whyNotPlace_109 rfl (lv_at hl 3 rfl) ?_
    refine r_get hC hw rk9 in_X9_whyNotPlace_9 0 (wMl 0 (by decide)) wM0 8 (by decide) lk_X9_whyNotPlace_31 (v := .ref (ad 7)) rfl dX9_whyNotPlace_110 ?_
    refine lv_aload_n hx hb dX9_whyNotPlace_113 rfl (lv_at hl 3 rfl) ?_
    refine r_get hC hw rk9 in_X9_whyNotPlace_9 0 (wMl 0 (by decide)) wM0 31 (by decide) lk_X9_whyNotPlace_126 (v := .int (t 1)) rfl dX9_whyNotPlace_114 ?_
    refine r_iald hC hw 7 (wMl 7 (by decide)) wM7 (by assumption) dX9_whyNotPlace_117 ?_
    refine lv_if_ne (tgt := 123) hx hb dX9_whyNotPlace_118 (by decide) (fun c_5 => ?_) (fun c_5 => ?_)
    · refine lv_aload_n hx hb dX9_whyNotPlace_123 rfl (lv_at hl 3 rfl) ?_
      refine r_get hC hw rk9 in_X9_whyNotPlace_9 0 (wMl 0 (by decide)) wM0 8 (by decide) lk_X9_whyNotPlace_31 (v := .ref (ad 7)) rfl dX9_whyNotPlace_124 ?_
      refine lv_aload_n hx hb dX9_whyNotPlace_127 rfl (lv_at hl 3 rfl) ?_
      refine r_get hC hw rk9 in_X9_whyNotPlace_9 0 (wMl 0 (by decide)) wM0 31 (by decide) lk_X9_whyNotPlace_126 (v := .int (t 1)) rfl dX9_whyNotPlace_128 ?_
      refine r_iald hC hw 7 (wMl 7 (by decide)) wM7 (by assumption) dX9_whyNotPlace_131 ?_
      refine lv_iconst (v := 1) hx hb dX9_whyNotPlace_132 (by decide) ?_
      refine lv_isub hx hb dX9_whyNotPlace_133 ?_
      refine lv_istore (lv' := [(5, .int ((sA κ 3 (aN (t 1))) - 1)), (4, .int 2), (3, .int 1), (2, .int 2), (0, .ref (ad 0)), (1, .int 51)]) hx hb dX9_whyNotPlace_134 hl (by decide) rfl (fun ls hl => ?_)
      refine lv_aload_n hx hb dX9_whyNotPlace_136 rfl (lv_at hl 4 rfl) ?_
      refine r_get hC hw rk9 in_X9_whyNotPlace_9 0 (wMl 0 (by decide)) wM0 4 (by decide) lk_X9_whyNotPlace_16 (v := .ref (ad 3)) rfl dX9_whyNotPlace_137 ?_
      refine lv_aload_n hx hb dX9_whyNotPlace_140 rfl (lv_at hl 4 rfl) ?_
      refine r_get hC hw rk9 in_X9_whyNotPlace_9 0 (wMl 0 (by decide)) wM0 32 (by decide) lk_X9_whyNotPlace_123 (v := .int (t 2)) rfl dX9_whyNotPlace_141 ?_
      refine r_iald hC hw 3 (wMl 3 (by decide)) wM3 (by assumption) dX9_whyNotPlace_144 ?_
      refine lv_iconst (v := 0) hx hb dX9_whyNotPlace_145 (by decide) ?_
      refine lv_aload_n hx hb dX9_whyNotPlace_146 rfl (lv_at hl 4 rfl) ?_
      refine r_get hC hw rk9 in_X9_whyNotPlace_9 0 (wMl 0 (by decide)) wM0 10 (by decide) lk_X9_whyNotPlace_37 (v := .ref (ad 9)) rfl dX9_whyNotPlace_147 ?_
      refine lv_iload hx hb dX9_whyNotPlace_150 (lv_at hl 0 rfl) ?_
      refine r_iald hC hw 9 (wMl 9 (by decide)) wM9 (wf_ref hW (by assumption) (by assumption)) dX9_whyNotPlace_152 ?_
      refine lv_iconst (v := 1) hx hb dX9_whyNotPlace_153 (by decide) ?_
      refine lv_isub hx hb dX9_whyNotPlace_154 ?_
      refine r_ki hw (r_runS (rest := []) hC hw (c_X9_isIn l _ _ (sA κ 2 (aN (t 2))) 0 ((sA κ 5 (aN ((sA κ 3 (aN (t 1))) - 1))) - 1)) 3 gX9_whyNotPlace_X9_isIn rfl rfl rfl (by decide +kernel) ⟨Nat.le_of_ble_eq_true rfl, Nat.le_of_ble_eq_true rfl⟩ rfl hl.1 rfl (Nat.le_of_ble_eq_true rfl) dX9_whyNotPlace_155 ⟨Nat.le_of_ble_eq_true rfl, Nat.le_of_ble_eq_true rfl⟩) (fun r_7 u_8 H locs h_6 hw => ?_)
      by_cases c_9 : pIn (sA κ 2 (aN (t 2))) 0 ((sA κ 5 (aN ((sA κ 3 (aN (t 1))) - 1))) - 1)
      · rw [if_pos c_9] at h_6
        subst h_6
        refine lv_if_ne (tgt := 163) hx hb dX9_whyNotPlace_158 (by decide) (fun _ => ?_) (fun c_ => absurd c_ (by decide))
        refine lv_iload_n hx hb dX9_whyNotPlace_163 rfl (lv_at hl 2 rfl) ?_
        refine lv_if_eq (tgt := 210) hx hb dX9_whyNotPlace_164 (by decide) (fun c_ => absurd c_ (by decide)) (fun _ => ?_)
        refine lv_iload_n hx hb dX9_whyNotPlace_167 rfl (lv_at hl 3 rfl) ?_
        refine lv_bipush (v := 8) hx hb dX9_whyNotPlace_168 (by decide) ?_
        refine lv_icmp_ne (tgt := 210) hx hb dX9_whyNotPlace_170 (by decide) (fun _ => ?_) (fun c_ => absurd c_ (by decide))
        refine lv_iconst (v := 0) hx hb dX9_whyNotPlace_210 (by decide) ?_
        refine lv_istore (lv' := [(6, .int 0), (5, .int ((sA κ 3 (aN (t 1))) - 1)), (4, .int 2), (3, .int 1), (2, .int 2), (0, .ref (ad 0)), (1, .int 51)]) hx hb dX9_whyNotPlace_211 hl (by decide) rfl (fun ls hl => ?_)
        refine lv_iload hx hb dX9_whyNotPlace_213 (lv_at hl 0 rfl) ?_
        refine lv_if_eq (tgt := 234) hx hb dX9_whyNotPlace_215 (by decide) (fun _ => ?_) (fun c_ => absurd (by decide) c_)
        refine lv_iconst (v := 0) hx hb dX9_whyNotPlace_234 (by decide) ?_
        exact r_iret hC hr hlk hw () rfl ((if_neg c_4).trans ((if_neg c_5).trans (if_pos c_9))).symm (Nat.le_of_ble_eq_true rfl) (Nat.le_of_ble_eq_true rfl) dX9_whyNotPlace_235
      · rw [if_neg c_9] at h_6
        subst h_6
        refine lv_if_ne (tgt := 163) hx hb dX9_whyNotPlace_158 (by decide) (fun c_ => absurd (by decide) c_) (fun _ => ?_)
        refine lv_iconst (v := 2) hx hb dX9_whyNotPlace_161 (by decide) ?_
        exact r_iret hC hr hlk hw () rfl ((if_neg c_4).trans ((if_neg c_5).trans (if_neg c_9))).symm (Nat.le_of_ble_eq_true rfl) (Nat.le_of_ble_eq_true rfl) dX9_whyNotPlace_162
    · refine lv_iconst (v := 1) hx hb dX9_whyNotPlace_121 (by decide) ?_
      exact r_iret hC hr hlk hw () rfl ((if_neg c_4).trans (if_pos c_5)).symm (Nat.le_of_ble_eq_true rfl) (Nat.le_of_ble_eq_true rfl) dX9_whyNotPlace_122

set_option maxHeartbeats 4000000 in
set_option maxRecDepth 100000 in
theorem c_X9_whyNotPlace_52 (l : Launch) {D : va_G} {q : Nat → ClassId} {ad : Nat → Nat} {κ : KS} {t : Nat → Int32} (sz : Nat) (hs : okStep 52 (t 0) (t 1) (t 2)) (hW : WFm κ) : Met l yX9_whyNotPlace wsX9_whyNotPlace (rmz 3 63) (va_Pc [.ref (ad 0), .int 52] (rPre D q (wM q ad κ t) sz)) (va_Qi (fun (r : Int32) (u : Unit) => r = why κ 52 (t 0) (t 1) (t 2)) (fun (u : Unit) tt => rPo D (rA (wM q ad κ t) sz) (wM q ad κ t) tt) (rA (wM q ad κ t) sz)) 0 0 (rA (wM q ad κ t) sz) := by
  have hi0 : vp_in (t 0) 8 := hs.1
  have hi1 : vp_in (t 1) 8 := hs.2.1
  have hi2 : vp_in (t 2) 8 := hs.2.2
  refine r_start (cc := cX9_whyNotPlace) (maxL := 7) (ret := (some .int)) (by decide) rfl (Nat.le_of_ble_eq_true rfl) ?_
  intro p e s m below meth c ls hC hr hlk hnm hsz hw hl
  have hx := hC.1
  have hb := hC.2.1
  have hl : lv_has ls 7 [(0, .ref (ad 0)), (1, .int 52)] := hl
  refine lv_iload_n hx hb dX9_whyNotPlace_0 rfl (lv_at hl 1 rfl) ?_
  refine lv_bipush (v := 39) hx hb dX9_whyNotPlace_1 (by decide) ?_
  refine lv_isub hx hb dX9_whyNotPlace_3 ?_
  refine r_topi (x := 52 - 39) (y := 13) (by decide) ?_
  refine lv_bipush (v := 10) hx hb dX9_whyNotPlace_4 (by decide) ?_
  refine lv_irem hx hb dX9_whyNotPlace_6 (by decide) ?_
  refine r_topi (x := 13 - 13 / 10 * 10) (y := 3) (by decide) ?_
  refine lv_istore_n (lv' := [(2, .int 3), (0, .ref (ad 0)), (1, .int 52)]) hx hb dX9_whyNotPlace_7 rfl hl (by decide) rfl (fun ls hl => ?_)
  refine lv_iload_n hx hb dX9_whyNotPlace_8 rfl (lv_at hl 2 rfl) ?_
  refine lv_bipush (v := 49) hx hb dX9_whyNotPlace_9 (by decide) ?_
  refine lv_icmp_lt (tgt := 18) hx hb dX9_whyNotPlace_11 (by decide) (fun c_ => absurd c_ (by decide)) (fun _ => ?_)
  refine lv_iconst (v := 1) hx hb dX9_whyNotPlace_14 (by decide) ?_
  refine lv_goto (tgt := 19) hx hb dX9_whyNotPlace_15 (by decide) ?_
  refine lv_istore_n (lv' := [(3, .int 1), (2, .int 3), (0, .ref (ad 0)), (1, .int 52)]) hx hb dX9_whyNotPlace_19 rfl hl (by decide) rfl (fun ls hl => ?_)
  refine lv_iload_n hx hb dX9_whyNotPlace_20 rfl (lv_at hl 1 rfl) ?_
  refine lv_bipush (v := 9) hx hb dX9_whyNotPlace_21 (by decide) ?_
  refine lv_icmp_ge (tgt := 30) hx hb dX9_whyNotPlace_23 (by decide) (fun c_ => absurd c_ (by decide)) (fun _ => ?_)
  refine lv_iload_n hx hb dX9_whyNotPlace_26 rfl (lv_at hl 1 rfl) ?_
  refine lv_goto (tgt := 32) hx hb dX9_whyNotPlace_27 (by decide) ?_
  refine lv_istore (lv' := [(4, .int 3), (3, .int 1), (2, .int 3), (0, .ref (ad 0)), (1, .int 52)]) hx hb dX9_whyNotPlace_32 hl (by decide) rfl (fun ls hl => ?_)
  refine lv_aload_n hx hb dX9_whyNotPlace_34 rfl (lv_at hl 3 rfl) ?_
  refine lv_aload_n hx hb dX9_whyNotPlace_35 rfl (lv_at hl 3 rfl) ?_
  refine r_get hC hw rk9 in_X9_whyNotPlace_9 0 (wMl 0 (by decide)) wM0 8 (by decide) lk_X9_whyNotPlace_31 (v := .ref (ad 7)) rfl dX9_whyNotPlace_36 ?_
  refine lv_aload_n hx hb dX9_whyNotPlace_39 rfl (lv_at hl 3 rfl) ?_
  refine r_get hC hw rk9 in_X9_whyNotPlace_9 0 (wMl 0 (by decide)) wM0 31 (by decide) lk_X9_whyNotPlace_126 (v := .int (t 1)) rfl dX9_whyNotPlace_40 ?_
  refine r_iald hC hw 7 (wMl 7 (by decide)) wM7 (by assumption) dX9_whyNotPlace_43 ?_
  refine lv_iload hx hb dX9_whyNotPlace_44 (lv_at hl 0 rfl) ?_
  refine r_ki hw (r_runV (rest := []) hC hw 0 (c_X9_isWrong_3 l _ (sA κ 3 (aN (t 1))) (fun hn => wf_ref hW (by assumption) hn)) rk9 (wMl 0 (by decide)) wM0 2 gX9_whyNotPlace_X9_isWrong rfl rfl rfl (by decide +kernel) ⟨Nat.le_of_ble_eq_true rfl, Nat.le_of_ble_eq_true rfl⟩ rfl hl.1 rfl (Nat.le_of_ble_eq_true rfl) dX9_whyNotPlace_46 ⟨Nat.le_of_ble_eq_true rfl, Nat.le_of_ble_eq_true rfl⟩) (fun r_2 u_3 H locs h_1 hw => ?_)
  by_cases c_4 : pWrong κ (sA κ 3 (aN (t 1))) 3
  · rw [if_pos c_4] at h_1
    subst h_1
    refine lv_if_ne (tgt := 107) hx hb dX9_whyNotPlace_49 (by decide) (fun _ => ?_) (fun c_ => absurd c_ (by decide))
    refine lv_iconst (v := 4) hx hb dX9_whyNotPlace_107 (by decide) ?_
    exact r_iret hC hr hlk hw () rfl (if_pos c_4).symm (Nat.le_of_ble_eq_true rfl) (Nat.le_of_ble_eq_true rfl) dX9_whyNotPlace_108
  · rw [if_neg c_4] at h_1
    subst h_1
    refine lv_if_ne (tgt := 107) hx hb dX9_whyNotPlace_49 (by decide) (fun c_ => absurd (by decide) c_) (fun _ => ?_)
    refine lv_iload_n hx hb dX9_whyNotPlace_52 rfl (lv_at hl 1 rfl) ?_
    refine lv_if_eq (tgt := 80) hx hb dX9_whyNotPlace_53 (by decide) (fun c_ => absurd c_ (by decide)) (fun _ => ?_)
    refine lv_iload_n hx hb dX9_whyNotPlace_56 rfl (lv_at hl 2 rfl) ?_
    refine lv_bipush (v := 8) hx hb dX9_whyNotPlace_57 (by decide) ?_
    refine lv_icmp_ne (tgt := 80) hx hb dX9_whyNotPlace_59 (by decide) (fun _ => ?_) (fun c_ => absurd c_ (by decide))
    refine lv_iload_n hx hb dX9_whyNotPlace_80 rfl (lv_at hl 1 rfl) ?_
    refine lv_if_eq (tgt := 109) hx hb dX9_whyNotPlace_81 (by decide) (fun c_ => absurd c_ (by decide)) (fun _ => ?_)
    refine lv_iload_n hx hb dX9_whyNotPlace_84 rfl (lv_at hl 2 rfl) ?_
    refine lv_bipush (v := 9) hx hb dX9_whyNotPlace_85 (by decide) ?_
    refine lv_icmp_ne (tgt := 109) hx hb dX9_whyNotPlace_87 (by decide) (fun _ => ?_) (fun c_ => absurd c_ (by decide))
    refine lv_aload_n hx hb dX9_whyNotPlace_109 rfl (lv_at hl 3 rfl) ?_
    refine r_get hC hw rk9 in_X9_whyNotPlace_9 0 (wMl 0 (by decide)) wM0 8 (by decide) lk_X9_whyNotPlace_31 (v := .ref (ad 7)) rfl dX9_whyNotPlace_110 ?_
    refine lv_aload_n hx hb dX9_whyNotPlace_113 rfl (lv_at hl 3 rfl) ?_
    refine r_get hC hw rk9 in_X9_whyNotPlace_9 0 (wMl 0 (by decide)) wM0 31 (by decide) lk_X9_whyNotPlace_126 (v := .int (t 1)) rfl dX9_whyNotPlace_114 ?_
    refine r_iald hC hw 7 (wMl 7 (by decide)) wM7 (by assumption) dX9_whyNotPlace_117 ?_
    refine lv_if_ne (tgt := 123) hx hb dX9_whyNotPlace_118 (by decide) (fun c_5 => ?_) (fun c_5 => ?_)
    · refine lv_aload_n hx hb dX9_whyNotPlace_123 rfl (lv_at hl 3 rfl) ?_
      refine r_get hC hw rk9 in_X9_whyNotPlace_9 0 (wMl 0 (by decide)) wM0 8 (by decide) lk_X9_whyNotPlace_31 (v := .ref (ad 7)) rfl dX9_whyNotPlace_124 ?_
      refine lv_aload_n hx hb dX9_whyNotPlace_127 rfl (lv_at hl 3 rfl) ?_
      refine r_get hC hw rk9 in_X9_whyNotPlace_9 0 (wMl 0 (by decide)) wM0 31 (by decide) lk_X9_whyNotPlace_126 (v := .int (t 1)) rfl dX9_whyNotPlace_128 ?_
      refine r_iald hC hw 7 (wMl 7 (by decide)) wM7 (by assumption) dX9_whyNotPlace_131 ?_
      refine lv_iconst (v := 1) hx hb dX9_whyNotPlace_132 (by decide) ?_
      refine lv_isub hx hb dX9_whyNotPlace_133 ?_
      refine lv_istore (lv' := [(5, .int ((sA κ 3 (aN (t 1))) - 1)), (4, .int 3), (3, .int 1), (2, .int 3), (0, .ref (ad 0)), (1, .int 52)]) hx hb dX9_whyNotPlace_134 hl (by decide) rfl (fun ls hl => ?_)
      refine lv_aload_n hx hb dX9_whyNotPlace_136 rfl (lv_at hl 4 rfl) ?_
      refine r_get hC hw rk9 in_X9_whyNotPlace_9 0 (wMl 0 (by decide)) wM0 4 (by decide) lk_X9_whyNotPlace_16 (v := .ref (ad 3)) rfl dX9_whyNotPlace_137 ?_
      refine lv_aload_n hx hb dX9_whyNotPlace_140 rfl (lv_at hl 4 rfl) ?_
      refine r_get hC hw rk9 in_X9_whyNotPlace_9 0 (wMl 0 (by decide)) wM0 32 (by decide) lk_X9_whyNotPlace_123 (v := .int (t 2)) rfl dX9_whyNotPlace_141 ?_
      refine r_iald hC hw 3 (wMl 3 (by decide)) wM3 (by assumption) dX9_whyNotPlace_144 ?_
      refine lv_iconst (v := 0) hx hb dX9_whyNotPlace_145 (by decide) ?_
      refine lv_aload_n hx hb dX9_whyNotPlace_146 rfl (lv_at hl 4 rfl) ?_
      refine r_get hC hw rk9 in_X9_whyNotPlace_9 0 (wMl 0 (by decide)) wM0 10 (by decide) lk_X9_whyNotPlace_37 (v := .ref (ad 9)) rfl dX9_whyNotPlace_147 ?_
      refine lv_iload hx hb dX9_whyNotPlace_150 (lv_at hl 0 rfl) ?_
      refine r_iald hC hw 9 (wMl 9 (by decide)) wM9 (wf_ref hW (by assumption) (by assumption)) dX9_whyNotPlace_152 ?_
      refine lv_iconst (v := 1) hx hb dX9_whyNotPlace_153 (by decide) ?_
      refine lv_isub hx hb dX9_whyNotPlace_154 ?_
      refine r_ki hw (r_runS (rest := []) hC hw (c_X9_isIn l _ _ (sA κ 2 (aN (t 2))) 0 ((sA κ 5 (aN ((sA κ 3 (aN (t 1))) - 1))) - 1)) 3 gX9_whyNotPlace_X9_isIn rfl rfl rfl (by decide +kernel) ⟨Nat.le_of_ble_eq_true rfl, Nat.le_of_ble_eq_true rfl⟩ rfl hl.1 rfl (Nat.le_of_ble_eq_true rfl) dX9_whyNotPlace_155 ⟨Nat.le_of_ble_eq_true rfl, Nat.le_of_ble_eq_true rfl⟩) (fun r_7 u_8 H locs h_6 hw => ?_)
      by_cases c_9 : pIn (sA κ 2 (aN (t 2))) 0 ((sA κ 5 (aN ((sA κ 3 (aN (t 1))) - 1))) - 1)
      · rw [if_pos c_9] at h_6
        subst h_6
        refine lv_if_ne (tgt := 163) hx hb dX9_whyNotPlace_158 (by decide) (fun _ => ?_) (fun c_ => absurd c_ (by decide))
        refine lv_iload_n hx hb dX9_whyNotPlace_163 rfl (lv_at hl 2 rfl) ?_
        refine lv_if_eq (tgt := 210) hx hb dX9_whyNotPlace_164 (by decide) (fun c_ => absurd c_ (by decide)) (fun _ => ?_)
        refine lv_iload_n hx hb dX9_whyNotPlace_167 rfl (lv_at hl 3 rfl) ?_
        refine lv_bipush (v := 8) hx hb dX9_whyNotPlace_168 (by decide) ?_
        refine lv_icmp_ne (tgt := 210) hx hb dX9_whyNotPlace_170 (by decide) (fun _ => ?_) (fun c_ => absurd c_ (by decide))
        refine lv_iconst (v := 0) hx hb dX9_whyNotPlace_210 (by decide) ?_
        refine lv_istore (lv' := [(6, .int 0), (5, .int ((sA κ 3 (aN (t 1))) - 1)), (4, .int 3), (3, .int 1), (2, .int 3), (0, .ref (ad 0)), (1, .int 52)]) hx hb dX9_whyNotPlace_211 hl (by decide) rfl (fun ls hl => ?_)
        refine lv_iload hx hb dX9_whyNotPlace_213 (lv_at hl 0 rfl) ?_
        refine lv_if_eq (tgt := 234) hx hb dX9_whyNotPlace_215 (by decide) (fun _ => ?_) (fun c_ => absurd (by decide) c_)
        refine lv_iconst (v := 0) hx hb dX9_whyNotPlace_234 (by decide) ?_
        exact r_iret hC hr hlk hw () rfl ((if_neg c_4).trans ((if_neg c_5).trans (if_pos c_9))).symm (Nat.le_of_ble_eq_true rfl) (Nat.le_of_ble_eq_true rfl) dX9_whyNotPlace_235
      · rw [if_neg c_9] at h_6
        subst h_6
        refine lv_if_ne (tgt := 163) hx hb dX9_whyNotPlace_158 (by decide) (fun c_ => absurd (by decide) c_) (fun _ => ?_)
        refine lv_iconst (v := 2) hx hb dX9_whyNotPlace_161 (by decide) ?_
        exact r_iret hC hr hlk hw () rfl ((if_neg c_4).trans ((if_neg c_5).trans (if_neg c_9))).symm (Nat.le_of_ble_eq_true rfl) (Nat.le_of_ble_eq_true rfl) dX9_whyNotPlace_162
    · refine lv_iconst (v := 1) hx hb dX9_whyNotPlace_121 (by decide) ?_
      exact r_iret hC hr hlk hw () rfl ((if_neg c_4).trans (if_pos c_5)).symm (Nat.le_of_ble_eq_true rfl) (Nat.le_of_ble_eq_true rfl) dX9_whyNotPlace_122

set_option maxHeartbeats 4000000 in
set_option maxRecDepth 100000 in
theorem c_X9_whyNotPlace_53 (l : Launch) {D : va_G} {q : Nat → ClassId} {ad : Nat → Nat} {κ : KS} {t : Nat → Int32} (sz : Nat) (hs : okStep 53 (t 0) (t 1) (t 2)) (hW : WFm κ) : Met l yX9_whyNotPlace wsX9_whyNotPlace (rmz 3 63) (va_Pc [.ref (ad 0), .int 53] (rPre D q (wM q ad κ t) sz)) (va_Qi (fun (r : Int32) (u : Unit) => r = why κ 53 (t 0) (t 1) (t 2)) (fun (u : Unit) tt => rPo D (rA (wM q ad κ t) sz) (wM q ad κ t) tt) (rA (wM q ad κ t) sz)) 0 0 (rA (wM q ad κ t) sz) := by
  have hi0 : vp_in (t 0) 8 := hs.1
  have hi1 : vp_in (t 1) 8 := hs.2.1
  have hi2 : vp_in (t 2) 8 := hs.2.2
  refine r_start (cc := cX9_whyNotPlace) (maxL := 7) (ret := (some .int)) (by decide) rfl (Nat.le_of_ble_eq_true rfl) ?_
  intro p e s m below meth c ls hC hr hlk hnm hsz hw hl
  have hx := hC.1
  have hb := hC.2.1
  have hl : lv_has ls 7 [(0, .ref (ad 0)), (1, .int 53)] := hl
  refine lv_iload_n hx hb dX9_whyNotPlace_0 rfl (lv_at hl 1 rfl) ?_
  refine lv_bipush (v := 39) hx hb dX9_whyNotPlace_1 (by decide) ?_
  refine lv_isub hx hb dX9_whyNotPlace_3 ?_
  refine r_topi (x := 53 - 39) (y := 14) (by decide) ?_
  refine lv_bipush (v := 10) hx hb dX9_whyNotPlace_4 (by decide) ?_
  refine lv_irem hx hb dX9_whyNotPlace_6 (by decide) ?_
  refine r_topi (x := 14 - 14 / 10 * 10) (y := 4) (by decide) ?_
  refine lv_istore_n (lv' := [(2, .int 4), (0, .ref (ad 0)), (1, .int 53)]) hx hb dX9_whyNotPlace_7 rfl hl (by decide) rfl (fun ls hl => ?_)
  refine lv_iload_n hx hb dX9_whyNotPlace_8 rfl (lv_at hl 2 rfl) ?_
  refine lv_bipush (v := 49) hx hb dX9_whyNotPlace_9 (by decide) ?_
  refine lv_icmp_lt (tgt := 18) hx hb dX9_whyNotPlace_11 (by decide) (fun c_ => absurd c_ (by decide)) (fun _ => ?_)
  refine lv_iconst (v := 1) hx hb dX9_whyNotPlace_14 (by decide) ?_
  refine lv_goto (tgt := 19) hx hb dX9_whyNotPlace_15 (by decide) ?_
  refine lv_istore_n (lv' := [(3, .int 1), (2, .int 4), (0, .ref (ad 0)), (1, .int 53)]) hx hb dX9_whyNotPlace_19 rfl hl (by decide) rfl (fun ls hl => ?_)
  refine lv_iload_n hx hb dX9_whyNotPlace_20 rfl (lv_at hl 1 rfl) ?_
  refine lv_bipush (v := 9) hx hb dX9_whyNotPlace_21 (by decide) ?_
  refine lv_icmp_ge (tgt := 30) hx hb dX9_whyNotPlace_23 (by decide) (fun c_ => absurd c_ (by decide)) (fun _ => ?_)
  refine lv_iload_n hx hb dX9_whyNotPlace_26 rfl (lv_at hl 1 rfl) ?_
  refine lv_goto (tgt := 32) hx hb dX9_whyNotPlace_27 (by decide) ?_
  refine lv_istore (lv' := [(4, .int 4), (3, .int 1), (2, .int 4), (0, .ref (ad 0)), (1, .int 53)]) hx hb dX9_whyNotPlace_32 hl (by decide) rfl (fun ls hl => ?_)
  refine lv_aload_n hx hb dX9_whyNotPlace_34 rfl (lv_at hl 3 rfl) ?_
  refine lv_aload_n hx hb dX9_whyNotPlace_35 rfl (lv_at hl 3 rfl) ?_
  refine r_get hC hw rk9 in_X9_whyNotPlace_9 0 (wMl 0 (by decide)) wM0 8 (by decide) lk_X9_whyNotPlace_31 (v := .ref (ad 7)) rfl dX9_whyNotPlace_36 ?_
  refine lv_aload_n hx hb dX9_whyNotPlace_39 rfl (lv_at hl 3 rfl) ?_
  refine r_get hC hw rk9 in_X9_whyNotPlace_9 0 (wMl 0 (by decide)) wM0 31 (by decide) lk_X9_whyNotPlace_126 (v := .int (t 1)) rfl dX9_whyNotPlace_40 ?_
  refine r_iald hC hw 7 (wMl 7 (by decide)) wM7 (by assumption) dX9_whyNotPlace_43 ?_
  refine lv_iload hx hb dX9_whyNotPlace_44 (lv_at hl 0 rfl) ?_
  refine r_ki hw (r_runV (rest := []) hC hw 0 (c_X9_isWrong_4 l _ (sA κ 3 (aN (t 1))) (fun hn => wf_ref hW (by assumption) hn)) rk9 (wMl 0 (by decide)) wM0 2 gX9_whyNotPlace_X9_isWrong rfl rfl rfl (by decide +kernel) ⟨Nat.le_of_ble_eq_true rfl, Nat.le_of_ble_eq_true rfl⟩ rfl hl.1 rfl (Nat.le_of_ble_eq_true rfl) dX9_whyNotPlace_46 ⟨Nat.le_of_ble_eq_true rfl, Nat.le_of_ble_eq_true rfl⟩) (fun r_2 u_3 H locs h_1 hw => ?_)
  by_cases c_4 : pWrong κ (sA κ 3 (aN (t 1))) 4
  · rw [if_pos c_4] at h_1
    subst h_1
    refine lv_if_ne (tgt := 107) hx hb dX9_whyNotPlace_49 (by decide) (fun _ => ?_) (fun c_ => absurd c_ (by decide))
    refine lv_iconst (v := 4) hx hb dX9_whyNotPlace_107 (by decide) ?_
    exact r_iret hC hr hlk hw () rfl (if_pos c_4).symm (Nat.le_of_ble_eq_true rfl) (Nat.le_of_ble_eq_true rfl) dX9_whyNotPlace_108
  · rw [if_neg c_4] at h_1
    subst h_1
    refine lv_if_ne (tgt := 107) hx hb dX9_whyNotPlace_49 (by decide) (fun c_ => absurd (by decide) c_) (fun _ => ?_)
    refine lv_iload_n hx hb dX9_whyNotPlace_52 rfl (lv_at hl 1 rfl) ?_
    refine lv_if_eq (tgt := 80) hx hb dX9_whyNotPlace_53 (by decide) (fun c_ => absurd c_ (by decide)) (fun _ => ?_)
    refine lv_iload_n hx hb dX9_whyNotPlace_56 rfl (lv_at hl 2 rfl) ?_
    refine lv_bipush (v := 8) hx hb dX9_whyNotPlace_57 (by decide) ?_
    refine lv_icmp_ne (tgt := 80) hx hb dX9_whyNotPlace_59 (by decide) (fun _ => ?_) (fun c_ => absurd c_ (by decide))
    refine lv_iload_n hx hb dX9_whyNotPlace_80 rfl (lv_at hl 1 rfl) ?_
    refine lv_if_eq (tgt := 109) hx hb dX9_whyNotPlace_81 (by decide) (fun c_ => absurd c_ (by decide)) (fun _ => ?_)
    refine lv_iload_n hx hb dX9_whyNotPlace_84 rfl (lv_at hl 2 rfl) ?_
    refine lv_bipush (v := 9) hx hb dX9_whyNotPlace_85 (by decide) ?_
    refine lv_icmp_ne (tgt := 109) hx hb dX9_whyNotPlace_87 (by decide) (fun _ => ?_) (fun c_ => absurd c_ (by decide))
    refine lv_aload_n hx hb dX9_whyNotPlace_109 rfl (lv_at hl 3 rfl) ?_
    refine r_get hC hw rk9 in_X9_whyNotPlace_9 0 (wMl 0 (by decide)) wM0 8 (by decide) lk_X9_whyNotPlace_31 (v := .ref (ad 7)) rfl dX9_whyNotPlace_110 ?_
    refine lv_aload_n hx hb dX9_whyNotPlace_113 rfl (lv_at hl 3 rfl) ?_
    refine r_get hC hw rk9 in_X9_whyNotPlace_9 0 (wMl 0 (by decide)) wM0 31 (by decide) lk_X9_whyNotPlace_126 (v := .int (t 1)) rfl dX9_whyNotPlace_114 ?_
    refine r_iald hC hw 7 (wMl 7 (by decide)) wM7 (by assumption) dX9_whyNotPlace_117 ?_
    refine lv_if_ne (tgt := 123) hx hb dX9_whyNotPlace_118 (by decide) (fun c_5 => ?_) (fun c_5 => ?_)
    · refine lv_aload_n hx hb dX9_whyNotPlace_123 rfl (lv_at hl 3 rfl) ?_
      refine r_get hC hw rk9 in_X9_whyNotPlace_9 0 (wMl 0 (by decide)) wM0 8 (by decide) lk_X9_whyNotPlace_31 (v := .ref (ad 7)) rfl dX9_whyNotPlace_124 ?_
      refine lv_aload_n hx hb dX9_whyNotPlace_127 rfl (lv_at hl 3 rfl) ?_
      refine r_get hC hw rk9 in_X9_whyNotPlace_9 0 (wMl 0 (by decide)) wM0 31 (by decide) lk_X9_whyNotPlace_126 (v := .int (t 1)) rfl dX9_whyNotPlace_128 ?_
      refine r_iald hC hw 7 (wMl 7 (by decide)) wM7 (by assumption) dX9_whyNotPlace_131 ?_
      refine lv_iconst (v := 1) hx hb dX9_whyNotPlace_132 (by decide) ?_
      refine lv_isub hx hb dX9_whyNotPlace_133 ?_
      refine lv_istore (lv' := [(5, .int ((sA κ 3 (aN (t 1))) - 1)), (4, .int 4), (3, .int 1), (2, .int 4), (0, .ref (ad 0)), (1, .int 53)]) hx hb dX9_whyNotPlace_134 hl (by decide) rfl (fun ls hl => ?_)
      refine lv_aload_n hx hb dX9_whyNotPlace_136 rfl (lv_at hl 4 rfl) ?_
      refine r_get hC hw rk9 in_X9_whyNotPlace_9 0 (wMl 0 (by decide)) wM0 4 (by decide) lk_X9_whyNotPlace_16 (v := .ref (ad 3)) rfl dX9_whyNotPlace_137 ?_
      refine lv_aload_n hx hb dX9_whyNotPlace_140 rfl (lv_at hl 4 rfl) ?_
      refine r_get hC hw rk9 in_X9_whyNotPlace_9 0 (wMl 0 (by decide)) wM0 32 (by decide) lk_X9_whyNotPlace_123 (v := .int (t 2)) rfl dX9_whyNotPlace_141 ?_
      refine r_iald hC hw 3 (wMl 3 (by decide)) wM3 (by assumption) dX9_whyNotPlace_144 ?_
      refine lv_iconst (v := 0) hx hb dX9_whyNotPlace_145 (by decide) ?_
      refine lv_aload_n hx hb dX9_whyNotPlace_146 rfl (lv_at hl 4 rfl) ?_
      refine r_get hC hw rk9 in_X9_whyNotPlace_9 0 (wMl 0 (by decide)) wM0 10 (by decide) lk_X9_whyNotPlace_37 (v := .ref (ad 9)) rfl dX9_whyNotPlace_147 ?_
      refine lv_iload hx hb dX9_whyNotPlace_150 (lv_at hl 0 rfl) ?_
      refine r_iald hC hw 9 (wMl 9 (by decide)) wM9 (wf_ref hW (by assumption) (by assumption)) dX9_whyNotPlace_152 ?_
      refine lv_iconst (v := 1) hx hb dX9_whyNotPlace_153 (by decide) ?_
      refine lv_isub hx hb dX9_whyNotPlace_154 ?_
      refine r_ki hw (r_runS (rest := []) hC hw (c_X9_isIn l _ _ (sA κ 2 (aN (t 2))) 0 ((sA κ 5 (aN ((sA κ 3 (aN (t 1))) - 1))) - 1)) 3 gX9_whyNotPlace_X9_isIn rfl rfl rfl (by decide +kernel) ⟨Nat.le_of_ble_eq_true rfl, Nat.le_of_ble_eq_true rfl⟩ rfl hl.1 rfl (Nat.le_of_ble_eq_true rfl) dX9_whyNotPlace_155 ⟨Nat.le_of_ble_eq_true rfl, Nat.le_of_ble_eq_true rfl⟩) (fun r_7 u_8 H locs h_6 hw => ?_)
      by_cases c_9 : pIn (sA κ 2 (aN (t 2))) 0 ((sA κ 5 (aN ((sA κ 3 (aN (t 1))) - 1))) - 1)
      · rw [if_pos c_9] at h_6
        subst h_6
        refine lv_if_ne (tgt := 163) hx hb dX9_whyNotPlace_158 (by decide) (fun _ => ?_) (fun c_ => absurd c_ (by decide))
        refine lv_iload_n hx hb dX9_whyNotPlace_163 rfl (lv_at hl 2 rfl) ?_
        refine lv_if_eq (tgt := 210) hx hb dX9_whyNotPlace_164 (by decide) (fun c_ => absurd c_ (by decide)) (fun _ => ?_)
        refine lv_iload_n hx hb dX9_whyNotPlace_167 rfl (lv_at hl 3 rfl) ?_
        refine lv_bipush (v := 8) hx hb dX9_whyNotPlace_168 (by decide) ?_
        refine lv_icmp_ne (tgt := 210) hx hb dX9_whyNotPlace_170 (by decide) (fun _ => ?_) (fun c_ => absurd c_ (by decide))
        refine lv_iconst (v := 0) hx hb dX9_whyNotPlace_210 (by decide) ?_
        refine lv_istore (lv' := [(6, .int 0), (5, .int ((sA κ 3 (aN (t 1))) - 1)), (4, .int 4), (3, .int 1), (2, .int 4), (0, .ref (ad 0)), (1, .int 53)]) hx hb dX9_whyNotPlace_211 hl (by decide) rfl (fun ls hl => ?_)
        refine lv_iload hx hb dX9_whyNotPlace_213 (lv_at hl 0 rfl) ?_
        refine lv_if_eq (tgt := 234) hx hb dX9_whyNotPlace_215 (by decide) (fun _ => ?_) (fun c_ => absurd (by decide) c_)
        refine lv_iconst (v := 0) hx hb dX9_whyNotPlace_234 (by decide) ?_
        exact r_iret hC hr hlk hw () rfl ((if_neg c_4).trans ((if_neg c_5).trans (if_pos c_9))).symm (Nat.le_of_ble_eq_true rfl) (Nat.le_of_ble_eq_true rfl) dX9_whyNotPlace_235
      · rw [if_neg c_9] at h_6
        subst h_6
        refine lv_if_ne (tgt := 163) hx hb dX9_whyNotPlace_158 (by decide) (fun c_ => absurd (by decide) c_) (fun _ => ?_)
        refine lv_iconst (v := 2) hx hb dX9_whyNotPlace_161 (by decide) ?_
        exact r_iret hC hr hlk hw () rfl ((if_neg c_4).trans ((if_neg c_5).trans (if_neg c_9))).symm (Nat.le_of_ble_eq_true rfl) (Nat.le_of_ble_eq_true rfl) dX9_whyNotPlace_162
    · refine lv_iconst (v := 1) hx hb dX9_whyNotPlace_121 (by decide) ?_
      exact r_iret hC hr hlk hw () rfl ((if_neg c_4).trans (if_pos c_5)).symm (Nat.le_of_ble_eq_true rfl) (Nat.le_of_ble_eq_true rfl) dX9_whyNotPlace_122

set_option maxHeartbeats 4000000 in
set_option maxRecDepth 100000 in
theorem c_X9_whyNotPlace_54 (l : Launch) {D : va_G} {q : Nat → ClassId} {ad : Nat → Nat} {κ : KS} {t : Nat → Int32} (sz : Nat) (hs : okStep 54 (t 0) (t 1) (t 2)) (hW : WFm κ) : Met l yX9_whyNotPlace wsX9_whyNotPlace (rmz 3 63) (va_Pc [.ref (ad 0), .int 54] (rPre D q (wM q ad κ t) sz)) (va_Qi (fun (r : Int32) (u : Unit) => r = why κ 54 (t 0) (t 1) (t 2)) (fun (u : Unit) tt => rPo D (rA (wM q ad κ t) sz) (wM q ad κ t) tt) (rA (wM q ad κ t) sz)) 0 0 (rA (wM q ad κ t) sz) := by
  have hi0 : vp_in (t 0) 4 := hs.1
  have hi1 : vp_in (t 1) 8 := hs.2.1
  have hi2 : vp_in (t 2) 8 := hs.2.2
  refine r_start (cc := cX9_whyNotPlace) (maxL := 7) (ret := (some .int)) (by decide) rfl (Nat.le_of_ble_eq_true rfl) ?_
  intro p e s m below meth c ls hC hr hlk hnm hsz hw hl
  have hx := hC.1
  have hb := hC.2.1
  have hl : lv_has ls 7 [(0, .ref (ad 0)), (1, .int 54)] := hl
  refine lv_iload_n hx hb dX9_whyNotPlace_0 rfl (lv_at hl 1 rfl) ?_
  refine lv_bipush (v := 39) hx hb dX9_whyNotPlace_1 (by decide) ?_
  refine lv_isub hx hb dX9_whyNotPlace_3 ?_
  refine r_topi (x := 54 - 39) (y := 15) (by decide) ?_
  refine lv_bipush (v := 10) hx hb dX9_whyNotPlace_4 (by decide) ?_
  refine lv_irem hx hb dX9_whyNotPlace_6 (by decide) ?_
  refine r_topi (x := 15 - 15 / 10 * 10) (y := 5) (by decide) ?_
  refine lv_istore_n (lv' := [(2, .int 5), (0, .ref (ad 0)), (1, .int 54)]) hx hb dX9_whyNotPlace_7 rfl hl (by decide) rfl (fun ls hl => ?_)
  refine lv_iload_n hx hb dX9_whyNotPlace_8 rfl (lv_at hl 2 rfl) ?_
  refine lv_bipush (v := 49) hx hb dX9_whyNotPlace_9 (by decide) ?_
  refine lv_icmp_lt (tgt := 18) hx hb dX9_whyNotPlace_11 (by decide) (fun c_ => absurd c_ (by decide)) (fun _ => ?_)
  refine lv_iconst (v := 1) hx hb dX9_whyNotPlace_14 (by decide) ?_
  refine lv_goto (tgt := 19) hx hb dX9_whyNotPlace_15 (by decide) ?_
  refine lv_istore_n (lv' := [(3, .int 1), (2, .int 5), (0, .ref (ad 0)), (1, .int 54)]) hx hb dX9_whyNotPlace_19 rfl hl (by decide) rfl (fun ls hl => ?_)
  refine lv_iload_n hx hb dX9_whyNotPlace_20 rfl (lv_at hl 1 rfl) ?_
  refine lv_bipush (v := 9) hx hb dX9_whyNotPlace_21 (by decide) ?_
  refine lv_icmp_ge (tgt := 30) hx hb dX9_whyNotPlace_23 (by decide) (fun c_ => absurd c_ (by decide)) (fun _ => ?_)
  refine lv_iload_n hx hb dX9_whyNotPlace_26 rfl (lv_at hl 1 rfl) ?_
  refine lv_goto (tgt := 32) hx hb dX9_whyNotPlace_27 (by decide) ?_
  refine lv_istore (lv' := [(4, .int 5), (3, .int 1), (2, .int 5), (0, .ref (ad 0)), (1, .int 54)]) hx hb dX9_whyNotPlace_32 hl (by decide) rfl (fun ls hl => ?_)
  refine lv_aload_n hx hb dX9_whyNotPlace_34 rfl (lv_at hl 3 rfl) ?_
  refine lv_aload_n hx hb dX9_whyNotPlace_35 rfl (lv_at hl 3 rfl) ?_
  refine r_get hC hw rk9 in_X9_whyNotPlace_9 0 (wMl 0 (by decide)) wM0 8 (by decide) lk_X9_whyNotPlace_31 (v := .ref (ad 7)) rfl dX9_whyNotPlace_36 ?_
  refine lv_aload_n hx hb dX9_whyNotPlace_39 rfl (lv_at hl 3 rfl) ?_
  refine r_get hC hw rk9 in_X9_whyNotPlace_9 0 (wMl 0 (by decide)) wM0 31 (by decide) lk_X9_whyNotPlace_126 (v := .int (t 1)) rfl dX9_whyNotPlace_40 ?_
  refine r_iald hC hw 7 (wMl 7 (by decide)) wM7 (by assumption) dX9_whyNotPlace_43 ?_
  refine lv_iload hx hb dX9_whyNotPlace_44 (lv_at hl 0 rfl) ?_
  refine r_ki hw (r_runV (rest := []) hC hw 0 (c_X9_isWrong_5 l _ (sA κ 3 (aN (t 1))) (fun hn => wf_ref hW (by assumption) hn)) rk9 (wMl 0 (by decide)) wM0 2 gX9_whyNotPlace_X9_isWrong rfl rfl rfl (by decide +kernel) ⟨Nat.le_of_ble_eq_true rfl, Nat.le_of_ble_eq_true rfl⟩ rfl hl.1 rfl (Nat.le_of_ble_eq_true rfl) dX9_whyNotPlace_46 ⟨Nat.le_of_ble_eq_true rfl, Nat.le_of_ble_eq_true rfl⟩) (fun r_2 u_3 H locs h_1 hw => ?_)
  by_cases c_4 : pWrong κ (sA κ 3 (aN (t 1))) 5
  · rw [if_pos c_4] at h_1
    subst h_1
    refine lv_if_ne (tgt := 107) hx hb dX9_whyNotPlace_49 (by decide) (fun _ => ?_) (fun c_ => absurd c_ (by decide))
    refine lv_iconst (v := 4) hx hb dX9_whyNotPlace_107 (by decide) ?_
    exact r_iret hC hr hlk hw () rfl (if_pos c_4).symm (Nat.le_of_ble_eq_true rfl) (Nat.le_of_ble_eq_true rfl) dX9_whyNotPlace_108
  · rw [if_neg c_4] at h_1
    subst h_1
    refine lv_if_ne (tgt := 107) hx hb dX9_whyNotPlace_49 (by decide) (fun c_ => absurd (by decide) c_) (fun _ => ?_)
    refine lv_iload_n hx hb dX9_whyNotPlace_52 rfl (lv_at hl 1 rfl) ?_
    refine lv_if_eq (tgt := 80) hx hb dX9_whyNotPlace_53 (by decide) (fun c_ => absurd c_ (by decide)) (fun _ => ?_)
    refine lv_iload_n hx hb dX9_whyNotPlace_56 rfl (lv_at hl 2 rfl) ?_
    refine lv_bipush (v := 8) hx hb dX9_whyNotPlace_57 (by decide) ?_
    refine lv_icmp_ne (tgt := 80) hx hb dX9_whyNotPlace_59 (by decide) (fun _ => ?_) (fun c_ => absurd c_ (by decide))
    refine lv_iload_n hx hb dX9_whyNotPlace_80 rfl (lv_at hl 1 rfl) ?_
    refine lv_if_eq (tgt := 109) hx hb dX9_whyNotPlace_81 (by decide) (fun c_ => absurd c_ (by decide)) (fun _ => ?_)
    refine lv_iload_n hx hb dX9_whyNotPlace_84 rfl (lv_at hl 2 rfl) ?_
    refine lv_bipush (v := 9) hx hb dX9_whyNotPlace_85 (by decide) ?_
    refine lv_icmp_ne (tgt := 109) hx hb dX9_whyNotPlace_87 (by decide) (fun _ => ?_) (fun c_ => absurd c_ (by decide))
    refine lv_aload_n hx hb dX9_whyNotPlace_109 rfl (lv_at hl 3 rfl) ?_
    refine r_get hC hw rk9 in_X9_whyNotPlace_9 0 (wMl 0 (by decide)) wM0 8 (by decide) lk_X9_whyNotPlace_31 (v := .ref (ad 7)) rfl dX9_whyNotPlace_110 ?_
    refine lv_aload_n hx hb dX9_whyNotPlace_113 rfl (lv_at hl 3 rfl) ?_
    refine r_get hC hw rk9 in_X9_whyNotPlace_9 0 (wMl 0 (by decide)) wM0 31 (by decide) lk_X9_whyNotPlace_126 (v := .int (t 1)) rfl dX9_whyNotPlace_114 ?_
    refine r_iald hC hw 7 (wMl 7 (by decide)) wM7 (by assumption) dX9_whyNotPlace_117 ?_
    refine lv_if_ne (tgt := 123) hx hb dX9_whyNotPlace_118 (by decide) (fun c_5 => ?_) (fun c_5 => ?_)
    · refine lv_aload_n hx hb dX9_whyNotPlace_123 rfl (lv_at hl 3 rfl) ?_
      refine r_get hC hw rk9 in_X9_whyNotPlace_9 0 (wMl 0 (by decide)) wM0 8 (by decide) lk_X9_whyNotPlace_31 (v := .ref (ad 7)) rfl dX9_whyNotPlace_124 ?_
      refine lv_aload_n hx hb dX9_whyNotPlace_127 rfl (lv_at hl 3 rfl) ?_
      refine r_get hC hw rk9 in_X9_whyNotPlace_9 0 (wMl 0 (by decide)) wM0 31 (by decide) lk_X9_whyNotPlace_126 (v := .int (t 1)) rfl dX9_whyNotPlace_128 ?_
      refine r_iald hC hw 7 (wMl 7 (by decide)) wM7 (by assumption) dX9_whyNotPlace_131 ?_
      refine lv_iconst (v := 1) hx hb dX9_whyNotPlace_132 (by decide) ?_
      refine lv_isub hx hb dX9_whyNotPlace_133 ?_
      refine lv_istore (lv' := [(5, .int ((sA κ 3 (aN (t 1))) - 1)), (4, .int 5), (3, .int 1), (2, .int 5), (0, .ref (ad 0)), (1, .int 54)]) hx hb dX9_whyNotPlace_134 hl (by decide) rfl (fun ls hl => ?_)
      refine lv_aload_n hx hb dX9_whyNotPlace_136 rfl (lv_at hl 4 rfl) ?_
      refine r_get hC hw rk9 in_X9_whyNotPlace_9 0 (wMl 0 (by decide)) wM0 4 (by decide) lk_X9_whyNotPlace_16 (v := .ref (ad 3)) rfl dX9_whyNotPlace_137 ?_
      refine lv_aload_n hx hb dX9_whyNotPlace_140 rfl (lv_at hl 4 rfl) ?_
      refine r_get hC hw rk9 in_X9_whyNotPlace_9 0 (wMl 0 (by decide)) wM0 32 (by decide) lk_X9_whyNotPlace_123 (v := .int (t 2)) rfl dX9_whyNotPlace_141 ?_
      refine r_iald hC hw 3 (wMl 3 (by decide)) wM3 (by assumption) dX9_whyNotPlace_144 ?_
      refine lv_iconst (v := 0) hx hb dX9_whyNotPlace_145 (by decide) ?_
      refine lv_aload_n hx hb dX9_whyNotPlace_146 rfl (lv_at hl 4 rfl) ?_
      refine r_get hC hw rk9 in_X9_whyNotPlace_9 0 (wMl 0 (by decide)) wM0 10 (by decide) lk_X9_whyNotPlace_37 (v := .ref (ad 9)) rfl dX9_whyNotPlace_147 ?_
      refine lv_iload hx hb dX9_whyNotPlace_150 (lv_at hl 0 rfl) ?_
      refine r_iald hC hw 9 (wMl 9 (by decide)) wM9 (wf_ref hW (by assumption) (by assumption)) dX9_whyNotPlace_152 ?_
      refine lv_iconst (v := 1) hx hb dX9_whyNotPlace_153 (by decide) ?_
      refine lv_isub hx hb dX9_whyNotPlace_154 ?_
      refine r_ki hw (r_runS (rest := []) hC hw (c_X9_isIn l _ _ (sA κ 2 (aN (t 2))) 0 ((sA κ 5 (aN ((sA κ 3 (aN (t 1))) - 1))) - 1)) 3 gX9_whyNotPlace_X9_isIn rfl rfl rfl (by decide +kernel) ⟨Nat.le_of_ble_eq_true rfl, Nat.le_of_ble_eq_true rfl⟩ rfl hl.1 rfl (Nat.le_of_ble_eq_true rfl) dX9_whyNotPlace_155 ⟨Nat.le_of_ble_eq_true rfl, Nat.le_of_ble_eq_true rfl⟩) (fun r_7 u_8 H locs h_6 hw => ?_)
      by_cases c_9 : pIn (sA κ 2 (aN (t 2))) 0 ((sA κ 5 (aN ((sA κ 3 (aN (t 1))) - 1))) - 1)
      · rw [if_pos c_9] at h_6
        subst h_6
        refine lv_if_ne (tgt := 163) hx hb dX9_whyNotPlace_158 (by decide) (fun _ => ?_) (fun c_ => absurd c_ (by decide))
        refine lv_iload_n hx hb dX9_whyNotPlace_163 rfl (lv_at hl 2 rfl) ?_
        refine lv_if_eq (tgt := 210) hx hb dX9_whyNotPlace_164 (by decide) (fun c_ => absurd c_ (by decide)) (fun _ => ?_)
        refine lv_iload_n hx hb dX9_whyNotPlace_167 rfl (lv_at hl 3 rfl) ?_
        refine lv_bipush (v := 8) hx hb dX9_whyNotPlace_168 (by decide) ?_
        refine lv_icmp_ne (tgt := 210) hx hb dX9_whyNotPlace_170 (by decide) (fun _ => ?_) (fun c_ => absurd c_ (by decide))
        refine lv_iconst (v := 0) hx hb dX9_whyNotPlace_210 (by decide) ?_
        refine lv_istore (lv' := [(6, .int 0), (5, .int ((sA κ 3 (aN (t 1))) - 1)), (4, .int 5), (3, .int 1), (2, .int 5), (0, .ref (ad 0)), (1, .int 54)]) hx hb dX9_whyNotPlace_211 hl (by decide) rfl (fun ls hl => ?_)
        refine lv_iload hx hb dX9_whyNotPlace_213 (lv_at hl 0 rfl) ?_
        refine lv_if_eq (tgt := 234) hx hb dX9_whyNotPlace_215 (by decide) (fun _ => ?_) (fun c_ => absurd (by decide) c_)
        refine lv_iconst (v := 0) hx hb dX9_whyNotPlace_234 (by decide) ?_
        exact r_iret hC hr hlk hw () rfl ((if_neg c_4).trans ((if_neg c_5).trans (if_pos c_9))).symm (Nat.le_of_ble_eq_true rfl) (Nat.le_of_ble_eq_true rfl) dX9_whyNotPlace_235
      · rw [if_neg c_9] at h_6
        subst h_6
        refine lv_if_ne (tgt := 163) hx hb dX9_whyNotPlace_158 (by decide) (fun c_ => absurd (by decide) c_) (fun _ => ?_)
        refine lv_iconst (v := 2) hx hb dX9_whyNotPlace_161 (by decide) ?_
        exact r_iret hC hr hlk hw () rfl ((if_neg c_4).trans ((if_neg c_5).trans (if_neg c_9))).symm (Nat.le_of_ble_eq_true rfl) (Nat.le_of_ble_eq_true rfl) dX9_whyNotPlace_162
    · refine lv_iconst (v := 1) hx hb dX9_whyNotPlace_121 (by decide) ?_
      exact r_iret hC hr hlk hw () rfl ((if_neg c_4).trans (if_pos c_5)).symm (Nat.le_of_ble_eq_true rfl) (Nat.le_of_ble_eq_true rfl) dX9_whyNotPlace_122

set_option maxHeartbeats 4000000 in
set_option maxRecDepth 100000 in
theorem c_X9_whyNotPlace_55 (l : Launch) {D : va_G} {q : Nat → ClassId} {ad : Nat → Nat} {κ : KS} {t : Nat → Int32} (sz : Nat) (hs : okStep 55 (t 0) (t 1) (t 2)) (hW : WFm κ) : Met l yX9_whyNotPlace wsX9_whyNotPlace (rmz 3 63) (va_Pc [.ref (ad 0), .int 55] (rPre D q (wM q ad κ t) sz)) (va_Qi (fun (r : Int32) (u : Unit) => r = why κ 55 (t 0) (t 1) (t 2)) (fun (u : Unit) tt => rPo D (rA (wM q ad κ t) sz) (wM q ad κ t) tt) (rA (wM q ad κ t) sz)) 0 0 (rA (wM q ad κ t) sz) := by
  have hi0 : vp_in (t 0) 4 := hs.1
  have hi1 : vp_in (t 1) 8 := hs.2.1
  have hi2 : vp_in (t 2) 8 := hs.2.2
  refine r_start (cc := cX9_whyNotPlace) (maxL := 7) (ret := (some .int)) (by decide) rfl (Nat.le_of_ble_eq_true rfl) ?_
  intro p e s m below meth c ls hC hr hlk hnm hsz hw hl
  have hx := hC.1
  have hb := hC.2.1
  have hl : lv_has ls 7 [(0, .ref (ad 0)), (1, .int 55)] := hl
  refine lv_iload_n hx hb dX9_whyNotPlace_0 rfl (lv_at hl 1 rfl) ?_
  refine lv_bipush (v := 39) hx hb dX9_whyNotPlace_1 (by decide) ?_
  refine lv_isub hx hb dX9_whyNotPlace_3 ?_
  refine r_topi (x := 55 - 39) (y := 16) (by decide) ?_
  refine lv_bipush (v := 10) hx hb dX9_whyNotPlace_4 (by decide) ?_
  refine lv_irem hx hb dX9_whyNotPlace_6 (by decide) ?_
  refine r_topi (x := 16 - 16 / 10 * 10) (y := 6) (by decide) ?_
  refine lv_istore_n (lv' := [(2, .int 6), (0, .ref (ad 0)), (1, .int 55)]) hx hb dX9_whyNotPlace_7 rfl hl (by decide) rfl (fun ls hl => ?_)
  refine lv_iload_n hx hb dX9_whyNotPlace_8 rfl (lv_at hl 2 rfl) ?_
  refine lv_bipush (v := 49) hx hb dX9_whyNotPlace_9 (by decide) ?_
  refine lv_icmp_lt (tgt := 18) hx hb dX9_whyNotPlace_11 (by decide) (fun c_ => absurd c_ (by decide)) (fun _ => ?_)
  refine lv_iconst (v := 1) hx hb dX9_whyNotPlace_14 (by decide) ?_
  refine lv_goto (tgt := 19) hx hb dX9_whyNotPlace_15 (by decide) ?_
  refine lv_istore_n (lv' := [(3, .int 1), (2, .int 6), (0, .ref (ad 0)), (1, .int 55)]) hx hb dX9_whyNotPlace_19 rfl hl (by decide) rfl (fun ls hl => ?_)
  refine lv_iload_n hx hb dX9_whyNotPlace_20 rfl (lv_at hl 1 rfl) ?_
  refine lv_bipush (v := 9) hx hb dX9_whyNotPlace_21 (by decide) ?_
  refine lv_icmp_ge (tgt := 30) hx hb dX9_whyNotPlace_23 (by decide) (fun c_ => absurd c_ (by decide)) (fun _ => ?_)
  refine lv_iload_n hx hb dX9_whyNotPlace_26 rfl (lv_at hl 1 rfl) ?_
  refine lv_goto (tgt := 32) hx hb dX9_whyNotPlace_27 (by decide) ?_
  refine lv_istore (lv' := [(4, .int 6), (3, .int 1), (2, .int 6), (0, .ref (ad 0)), (1, .int 55)]) hx hb dX9_whyNotPlace_32 hl (by decide) rfl (fun ls hl => ?_)
  refine lv_aload_n hx hb dX9_whyNotPlace_34 rfl (lv_at hl 3 rfl) ?_
  refine lv_aload_n hx hb dX9_whyNotPlace_35 rfl (lv_at hl 3 rfl) ?_
  refine r_get hC hw rk9 in_X9_whyNotPlace_9 0 (wMl 0 (by decide)) wM0 8 (by decide) lk_X9_whyNotPlace_31 (v := .ref (ad 7)) rfl dX9_whyNotPlace_36 ?_
  refine lv_aload_n hx hb dX9_whyNotPlace_39 rfl (lv_at hl 3 rfl) ?_
  refine r_get hC hw rk9 in_X9_whyNotPlace_9 0 (wMl 0 (by decide)) wM0 31 (by decide) lk_X9_whyNotPlace_126 (v := .int (t 1)) rfl dX9_whyNotPlace_40 ?_
  refine r_iald hC hw 7 (wMl 7 (by decide)) wM7 (by assumption) dX9_whyNotPlace_43 ?_
  refine lv_iload hx hb dX9_whyNotPlace_44 (lv_at hl 0 rfl) ?_
  refine r_ki hw (r_runV (rest := []) hC hw 0 (c_X9_isWrong_6 l _ (sA κ 3 (aN (t 1))) (fun hn => wf_ref hW (by assumption) hn)) rk9 (wMl 0 (by decide)) wM0 2 gX9_whyNotPlace_X9_isWrong rfl rfl rfl (by decide +kernel) ⟨Nat.le_of_ble_eq_true rfl, Nat.le_of_ble_eq_true rfl⟩ rfl hl.1 rfl (Nat.le_of_ble_eq_true rfl) dX9_whyNotPlace_46 ⟨Nat.le_of_ble_eq_true rfl, Nat.le_of_ble_eq_true rfl⟩) (fun r_2 u_3 H locs h_1 hw => ?_)
  by_cases c_4 : pWrong κ (sA κ 3 (aN (t 1))) 6
  · rw [if_pos c_4] at h_1
    subst h_1
    refine lv_if_ne (tgt := 107) hx hb dX9_whyNotPlace_49 (by decide) (fun _ => ?_) (fun c_ => absurd c_ (by decide))
    refine lv_iconst (v := 4) hx hb dX9_whyNotPlace_107 (by decide) ?_
    exact r_iret hC hr hlk hw () rfl (if_pos c_4).symm (Nat.le_of_ble_eq_true rfl) (Nat.le_of_ble_eq_true rfl) dX9_whyNotPlace_108
  · rw [if_neg c_4] at h_1
    subst h_1
    refine lv_if_ne (tgt := 107) hx hb dX9_whyNotPlace_49 (by decide) (fun c_ => absurd (by decide) c_) (fun _ => ?_)
    refine lv_iload_n hx hb dX9_whyNotPlace_52 rfl (lv_at hl 1 rfl) ?_
    refine lv_if_eq (tgt := 80) hx hb dX9_whyNotPlace_53 (by decide) (fun c_ => absurd c_ (by decide)) (fun _ => ?_)
    refine lv_iload_n hx hb dX9_whyNotPlace_56 rfl (lv_at hl 2 rfl) ?_
    refine lv_bipush (v := 8) hx hb dX9_whyNotPlace_57 (by decide) ?_
    refine lv_icmp_ne (tgt := 80) hx hb dX9_whyNotPlace_59 (by decide) (fun _ => ?_) (fun c_ => absurd c_ (by decide))
    refine lv_iload_n hx hb dX9_whyNotPlace_80 rfl (lv_at hl 1 rfl) ?_
    refine lv_if_eq (tgt := 109) hx hb dX9_whyNotPlace_81 (by decide) (fun c_ => absurd c_ (by decide)) (fun _ => ?_)
    refine lv_iload_n hx hb dX9_whyNotPlace_84 rfl (lv_at hl 2 rfl) ?_
    refine lv_bipush (v := 9) hx hb dX9_whyNotPlace_85 (by decide) ?_
    refine lv_icmp_ne (tgt := 109) hx hb dX9_whyNotPlace_87 (by decide) (fun _ => ?_) (fun c_ => absurd c_ (by decide))
    refine lv_aload_n hx hb dX9_whyNotPlace_109 rfl (lv_at hl 3 rfl) ?_
    refine r_get hC hw rk9 in_X9_whyNotPlace_9 0 (wMl 0 (by decide)) wM0 8 (by decide) lk_X9_whyNotPlace_31 (v := .ref (ad 7)) rfl dX9_whyNotPlace_110 ?_
    refine lv_aload_n hx hb dX9_whyNotPlace_113 rfl (lv_at hl 3 rfl) ?_
    refine r_get hC hw rk9 in_X9_whyNotPlace_9 0 (wMl 0 (by decide)) wM0 31 (by decide) lk_X9_whyNotPlace_126 (v := .int (t 1)) rfl dX9_whyNotPlace_114 ?_
    refine r_iald hC hw 7 (wMl 7 (by decide)) wM7 (by assumption) dX9_whyNotPlace_117 ?_
    refine lv_if_ne (tgt := 123) hx hb dX9_whyNotPlace_118 (by decide) (fun c_5 => ?_) (fun c_5 => ?_)
    · refine lv_aload_n hx hb dX9_whyNotPlace_123 rfl (lv_at hl 3 rfl) ?_
      refine r_get hC hw rk9 in_X9_whyNotPlace_9 0 (wMl 0 (by decide)) wM0 8 (by decide) lk_X9_whyNotPlace_31 (v := .ref (ad 7)) rfl dX9_whyNotPlace_124 ?_
      refine lv_aload_n hx hb dX9_whyNotPlace_127 rfl (lv_at hl 3 rfl) ?_
      refine r_get hC hw rk9 in_X9_whyNotPlace_9 0 (wMl 0 (by decide)) wM0 31 (by decide) lk_X9_whyNotPlace_126 (v := .int (t 1)) rfl dX9_whyNotPlace_128 ?_
      refine r_iald hC hw 7 (wMl 7 (by decide)) wM7 (by assumption) dX9_whyNotPlace_131 ?_
      refine lv_iconst (v := 1) hx hb dX9_whyNotPlace_132 (by decide) ?_
      refine lv_isub hx hb dX9_whyNotPlace_133 ?_
      refine lv_istore (lv' := [(5, .int ((sA κ 3 (aN (t 1))) - 1)), (4, .int 6), (3, .int 1), (2, .int 6), (0, .ref (ad 0)), (1, .int 55)]) hx hb dX9_whyNotPlace_134 hl (by decide) rfl (fun ls hl => ?_)
      refine lv_aload_n hx hb dX9_whyNotPlace_136 rfl (lv_at hl 4 rfl) ?_
      refine r_get hC hw rk9 in_X9_whyNotPlace_9 0 (wMl 0 (by decide)) wM0 4 (by decide) lk_X9_whyNotPlace_16 (v := .ref (ad 3)) rfl dX9_whyNotPlace_137 ?_
      refine lv_aload_n hx hb dX9_whyNotPlace_140 rfl (lv_at hl 4 rfl) ?_
      refine r_get hC hw rk9 in_X9_whyNotPlace_9 0 (wMl 0 (by decide)) wM0 32 (by decide) lk_X9_whyNotPlace_123 (v := .int (t 2)) rfl dX9_whyNotPlace_141 ?_
      refine r_iald hC hw 3 (wMl 3 (by decide)) wM3 (by assumption) dX9_whyNotPlace_144 ?_
      refine lv_iconst (v := 0) hx hb dX9_whyNotPlace_145 (by decide) ?_
      refine lv_aload_n hx hb dX9_whyNotPlace_146 rfl (lv_at hl 4 rfl) ?_
      refine r_get hC hw rk9 in_X9_whyNotPlace_9 0 (wMl 0 (by decide)) wM0 10 (by decide) lk_X9_whyNotPlace_37 (v := .ref (ad 9)) rfl dX9_whyNotPlace_147 ?_
      refine lv_iload hx hb dX9_whyNotPlace_150 (lv_at hl 0 rfl) ?_
      refine r_iald hC hw 9 (wMl 9 (by decide)) wM9 (wf_ref hW (by assumption) (by assumption)) dX9_whyNotPlace_152 ?_
      refine lv_iconst (v := 1) hx hb dX9_whyNotPlace_153 (by decide) ?_
      refine lv_isub hx hb dX9_whyNotPlace_154 ?_
      refine r_ki hw (r_runS (rest := []) hC hw (c_X9_isIn l _ _ (sA κ 2 (aN (t 2))) 0 ((sA κ 5 (aN ((sA κ 3 (aN (t 1))) - 1))) - 1)) 3 gX9_whyNotPlace_X9_isIn rfl rfl rfl (by decide +kernel) ⟨Nat.le_of_ble_eq_true rfl, Nat.le_of_ble_eq_true rfl⟩ rfl hl.1 rfl (Nat.le_of_ble_eq_true rfl) dX9_whyNotPlace_155 ⟨Nat.le_of_ble_eq_true rfl, Nat.le_of_ble_eq_true rfl⟩) (fun r_7 u_8 H locs h_6 hw => ?_)
      by_cases c_9 : pIn (sA κ 2 (aN (t 2))) 0 ((sA κ 5 (aN ((sA κ 3 (aN (t 1))) - 1))) - 1)
      · rw [if_pos c_9] at h_6
        subst h_6
        refine lv_if_ne (tgt := 163) hx hb dX9_whyNotPlace_158 (by decide) (fun _ => ?_) (fun c_ => absurd c_ (by decide))
        refine lv_iload_n hx hb dX9_whyNotPlace_163 rfl (lv_at hl 2 rfl) ?_
        refine lv_if_eq (tgt := 210) hx hb dX9_whyNotPlace_164 (by decide) (fun c_ => absurd c_ (by decide)) (fun _ => ?_)
        refine lv_iload_n hx hb dX9_whyNotPlace_167 rfl (lv_at hl 3 rfl) ?_
        refine lv_bipush (v := 8) hx hb dX9_whyNotPlace_168 (by decide) ?_
        refine lv_icmp_ne (tgt := 210) hx hb dX9_whyNotPlace_170 (by decide) (fun _ => ?_) (fun c_ => absurd c_ (by decide))
        refine lv_iconst (v := 0) hx hb dX9_whyNotPlace_210 (by decide) ?_
        refine lv_istore (lv' := [(6, .int 0), (5, .int ((sA κ 3 (aN (t 1))) - 1)), (4, .int 6), (3, .int 1), (2, .int 6), (0, .ref (ad 0)), (1, .int 55)]) hx hb dX9_whyNotPlace_211 hl (by decide) rfl (fun ls hl => ?_)
        refine lv_iload hx hb dX9_whyNotPlace_213 (lv_at hl 0 rfl) ?_
        refine lv_if_eq (tgt := 234) hx hb dX9_whyNotPlace_215 (by decide) (fun _ => ?_) (fun c_ => absurd (by decide) c_)
        refine lv_iconst (v := 0) hx hb dX9_whyNotPlace_234 (by decide) ?_
        exact r_iret hC hr hlk hw () rfl ((if_neg c_4).trans ((if_neg c_5).trans (if_pos c_9))).symm (Nat.le_of_ble_eq_true rfl) (Nat.le_of_ble_eq_true rfl) dX9_whyNotPlace_235
      · rw [if_neg c_9] at h_6
        subst h_6
        refine lv_if_ne (tgt := 163) hx hb dX9_whyNotPlace_158 (by decide) (fun c_ => absurd (by decide) c_) (fun _ => ?_)
        refine lv_iconst (v := 2) hx hb dX9_whyNotPlace_161 (by decide) ?_
        exact r_iret hC hr hlk hw () rfl ((if_neg c_4).trans ((if_neg c_5).trans (if_neg c_9))).symm (Nat.le_of_ble_eq_true rfl) (Nat.le_of_ble_eq_true rfl) dX9_whyNotPlace_162
    · refine lv_iconst (v := 1) hx hb dX9_whyNotPlace_121 (by decide) ?_
      exact r_iret hC hr hlk hw () rfl ((if_neg c_4).trans (if_pos c_5)).symm (Nat.le_of_ble_eq_true rfl) (Nat.le_of_ble_eq_true rfl) dX9_whyNotPlace_122

set_option maxHeartbeats 4000000 in
set_option maxRecDepth 100000 in
theorem c_X9_whyNotPlace_56 (l : Launch) {D : va_G} {q : Nat → ClassId} {ad : Nat → Nat} {κ : KS} {t : Nat → Int32} (sz : Nat) (hs : okStep 56 (t 0) (t 1) (t 2)) (hW : WFm κ) : Met l yX9_whyNotPlace wsX9_whyNotPlace (rmz 3 63) (va_Pc [.ref (ad 0), .int 56] (rPre D q (wM q ad κ t) sz)) (va_Qi (fun (r : Int32) (u : Unit) => r = why κ 56 (t 0) (t 1) (t 2)) (fun (u : Unit) tt => rPo D (rA (wM q ad κ t) sz) (wM q ad κ t) tt) (rA (wM q ad κ t) sz)) 0 0 (rA (wM q ad κ t) sz) := by
  have hi0 : vp_in (t 0) 4 := hs.1
  have hi1 : vp_in (t 1) 8 := hs.2.1
  have hi2 : vp_in (t 2) 8 := hs.2.2
  refine r_start (cc := cX9_whyNotPlace) (maxL := 7) (ret := (some .int)) (by decide) rfl (Nat.le_of_ble_eq_true rfl) ?_
  intro p e s m below meth c ls hC hr hlk hnm hsz hw hl
  have hx := hC.1
  have hb := hC.2.1
  have hl : lv_has ls 7 [(0, .ref (ad 0)), (1, .int 56)] := hl
  refine lv_iload_n hx hb dX9_whyNotPlace_0 rfl (lv_at hl 1 rfl) ?_
  refine lv_bipush (v := 39) hx hb dX9_whyNotPlace_1 (by decide) ?_
  refine lv_isub hx hb dX9_whyNotPlace_3 ?_
  refine r_topi (x := 56 - 39) (y := 17) (by decide) ?_
  refine lv_bipush (v := 10) hx hb dX9_whyNotPlace_4 (by decide) ?_
  refine lv_irem hx hb dX9_whyNotPlace_6 (by decide) ?_
  refine r_topi (x := 17 - 17 / 10 * 10) (y := 7) (by decide) ?_
  refine lv_istore_n (lv' := [(2, .int 7), (0, .ref (ad 0)), (1, .int 56)]) hx hb dX9_whyNotPlace_7 rfl hl (by decide) rfl (fun ls hl => ?_)
  refine lv_iload_n hx hb dX9_whyNotPlace_8 rfl (lv_at hl 2 rfl) ?_
  refine lv_bipush (v := 49) hx hb dX9_whyNotPlace_9 (by decide) ?_
  refine lv_icmp_lt (tgt := 18) hx hb dX9_whyNotPlace_11 (by decide) (fun c_ => absurd c_ (by decide)) (fun _ => ?_)
  refine lv_iconst (v := 1) hx hb dX9_whyNotPlace_14 (by decide) ?_
  refine lv_goto (tgt := 19) hx hb dX9_whyNotPlace_15 (by decide) ?_
  refine lv_istore_n (lv' := [(3, .int 1), (2, .int 7), (0, .ref (ad 0)), (1, .int 56)]) hx hb dX9_whyNotPlace_19 rfl hl (by decide) rfl (fun ls hl => ?_)
  refine lv_iload_n hx hb dX9_whyNotPlace_20 rfl (lv_at hl 1 rfl) ?_
  refine lv_bipush (v := 9) hx hb dX9_whyNotPlace_21 (by decide) ?_
  refine lv_icmp_ge (tgt := 30) hx hb dX9_whyNotPlace_23 (by decide) (fun c_ => absurd c_ (by decide)) (fun _ => ?_)
  refine lv_iload_n hx hb dX9_whyNotPlace_26 rfl (lv_at hl 1 rfl) ?_
  refine lv_goto (tgt := 32) hx hb dX9_whyNotPlace_27 (by decide) ?_
  refine lv_istore (lv' := [(4, .int 7), (3, .int 1), (2, .int 7), (0, .ref (ad 0)), (1, .int 56)]) hx hb dX9_whyNotPlace_32 hl (by decide) rfl (fun ls hl => ?_)
  refine lv_aload_n hx hb dX9_whyNotPlace_34 rfl (lv_at hl 3 rfl) ?_
  refine lv_aload_n hx hb dX9_whyNotPlace_35 rfl (lv_at hl 3 rfl) ?_
  refine r_get hC hw rk9 in_X9_whyNotPlace_9 0 (wMl 0 (by decide)) wM0 8 (by decide) lk_X9_whyNotPlace_31 (v := .ref (ad 7)) rfl dX9_whyNotPlace_36 ?_
  refine lv_aload_n hx hb dX9_whyNotPlace_39 rfl (lv_at hl 3 rfl) ?_
  refine r_get hC hw rk9 in_X9_whyNotPlace_9 0 (wMl 0 (by decide)) wM0 31 (by decide) lk_X9_whyNotPlace_126 (v := .int (t 1)) rfl dX9_whyNotPlace_40 ?_
  refine r_iald hC hw 7 (wMl 7 (by decide)) wM7 (by assumption) dX9_whyNotPlace_43 ?_
  refine lv_iload hx hb dX9_whyNotPlace_44 (lv_at hl 0 rfl) ?_
  refine r_ki hw (r_runV (rest := []) hC hw 0 (c_X9_isWrong_7 l _ (sA κ 3 (aN (t 1))) (fun hn => wf_ref hW (by assumption) hn)) rk9 (wMl 0 (by decide)) wM0 2 gX9_whyNotPlace_X9_isWrong rfl rfl rfl (by decide +kernel) ⟨Nat.le_of_ble_eq_true rfl, Nat.le_of_ble_eq_true rfl⟩ rfl hl.1 rfl (Nat.le_of_ble_eq_true rfl) dX9_whyNotPlace_46 ⟨Nat.le_of_ble_eq_true rfl, Nat.le_of_ble_eq_true rfl⟩) (fun r_2 u_3 H locs h_1 hw => ?_)
  by_cases c_4 : pWrong κ (sA κ 3 (aN (t 1))) 7
  · rw [if_pos c_4] at h_1
    subst h_1
    refine lv_if_ne (tgt := 107) hx hb dX9_whyNotPlace_49 (by decide) (fun _ => ?_) (fun c_ => absurd c_ (by decide))
    refine lv_iconst (v := 4) hx hb dX9_whyNotPlace_107 (by decide) ?_
    exact r_iret hC hr hlk hw () rfl (if_pos c_4).symm (Nat.le_of_ble_eq_true rfl) (Nat.le_of_ble_eq_true rfl) dX9_whyNotPlace_108
  · rw [if_neg c_4] at h_1
    subst h_1
    refine lv_if_ne (tgt := 107) hx hb dX9_whyNotPlace_49 (by decide) (fun c_ => absurd (by decide) c_) (fun _ => ?_)
    refine lv_iload_n hx hb dX9_whyNotPlace_52 rfl (lv_at hl 1 rfl) ?_
    refine lv_if_eq (tgt := 80) hx hb dX9_whyNotPlace_53 (by decide) (fun c_ => absurd c_ (by decide)) (fun _ => ?_)
    refine lv_iload_n hx hb dX9_whyNotPlace_56 rfl (lv_at hl 2 rfl) ?_
    refine lv_bipush (v := 8) hx hb dX9_whyNotPlace_57 (by decide) ?_
    refine lv_icmp_ne (tgt := 80) hx hb dX9_whyNotPlace_59 (by decide) (fun _ => ?_) (fun c_ => absurd c_ (by decide))
    refine lv_iload_n hx hb dX9_whyNotPlace_80 rfl (lv_at hl 1 rfl) ?_
    refine lv_if_eq (tgt := 109) hx hb dX9_whyNotPlace_81 (by decide) (fun c_ => absurd c_ (by decide)) (fun _ => ?_)
    refine lv_iload_n hx hb dX9_whyNotPlace_84 rfl (lv_at hl 2 rfl) ?_
    refine lv_bipush (v := 9) hx hb dX9_whyNotPlace_85 (by decide) ?_
    refine lv_icmp_ne (tgt := 109) hx hb dX9_whyNotPlace_87 (by decide) (fun _ => ?_) (fun c_ => absurd c_ (by decide))
    refine lv_aload_n hx hb dX9_whyNotPlace_109 rfl (lv_at hl 3 rfl) ?_
    refine r_get hC hw rk9 in_X9_whyNotPlace_9 0 (wMl 0 (by decide)) wM0 8 (by decide) lk_X9_whyNotPlace_31 (v := .ref (ad 7)) rfl dX9_whyNotPlace_110 ?_
    refine lv_aload_n hx hb dX9_whyNotPlace_113 rfl (lv_at hl 3 rfl) ?_
    refine r_get hC hw rk9 in_X9_whyNotPlace_9 0 (wMl 0 (by decide)) wM0 31 (by decide) lk_X9_whyNotPlace_126 (v := .int (t 1)) rfl dX9_whyNotPlace_114 ?_
    refine r_iald hC hw 7 (wMl 7 (by decide)) wM7 (by assumption) dX9_whyNotPlace_117 ?_
    refine lv_if_ne (tgt := 123) hx hb dX9_whyNotPlace_118 (by decide) (fun c_5 => ?_) (fun c_5 => ?_)
    · refine lv_aload_n hx hb dX9_whyNotPlace_123 rfl (lv_at hl 3 rfl) ?_
      refine r_get hC hw rk9 in_X9_whyNotPlace_9 0 (wMl 0 (by decide)) wM0 8 (by decide) lk_X9_whyNotPlace_31 (v := .ref (ad 7)) rfl dX9_whyNotPlace_124 ?_
      refine lv_aload_n hx hb dX9_whyNotPlace_127 rfl (lv_at hl 3 rfl) ?_
      refine r_get hC hw rk9 in_X9_whyNotPlace_9 0 (wMl 0 (by decide)) wM0 31 (by decide) lk_X9_whyNotPlace_126 (v := .int (t 1)) rfl dX9_whyNotPlace_128 ?_
      refine r_iald hC hw 7 (wMl 7 (by decide)) wM7 (by assumption) dX9_whyNotPlace_131 ?_
      refine lv_iconst (v := 1) hx hb dX9_whyNotPlace_132 (by decide) ?_
      refine lv_isub hx hb dX9_whyNotPlace_133 ?_
      refine lv_istore (lv' := [(5, .int ((sA κ 3 (aN (t 1))) - 1)), (4, .int 7), (3, .int 1), (2, .int 7), (0, .ref (ad 0)), (1, .int 56)]) hx hb dX9_whyNotPlace_134 hl (by decide) rfl (fun ls hl => ?_)
      refine lv_aload_n hx hb dX9_whyNotPlace_136 rfl (lv_at hl 4 rfl) ?_
      refine r_get hC hw rk9 in_X9_whyNotPlace_9 0 (wMl 0 (by decide)) wM0 4 (by decide) lk_X9_whyNotPlace_16 (v := .ref (ad 3)) rfl dX9_whyNotPlace_137 ?_
      refine lv_aload_n hx hb dX9_whyNotPlace_140 rfl (lv_at hl 4 rfl) ?_
      refine r_get hC hw rk9 in_X9_whyNotPlace_9 0 (wMl 0 (by decide)) wM0 32 (by decide) lk_X9_whyNotPlace_123 (v := .int (t 2)) rfl dX9_whyNotPlace_141 ?_
      refine r_iald hC hw 3 (wMl 3 (by decide)) wM3 (by assumption) dX9_whyNotPlace_144 ?_
      refine lv_iconst (v := 0) hx hb dX9_whyNotPlace_145 (by decide) ?_
      refine lv_aload_n hx hb dX9_whyNotPlace_146 rfl (lv_at hl 4 rfl) ?_
      refine r_get hC hw rk9 in_X9_whyNotPlace_9 0 (wMl 0 (by decide)) wM0 10 (by decide) lk_X9_whyNotPlace_37 (v := .ref (ad 9)) rfl dX9_whyNotPlace_147 ?_
      refine lv_iload hx hb dX9_whyNotPlace_150 (lv_at hl 0 rfl) ?_
      refine r_iald hC hw 9 (wMl 9 (by decide)) wM9 (wf_ref hW (by assumption) (by assumption)) dX9_whyNotPlace_152 ?_
      refine lv_iconst (v := 1) hx hb dX9_whyNotPlace_153 (by decide) ?_
      refine lv_isub hx hb dX9_whyNotPlace_154 ?_
      refine r_ki hw (r_runS (rest := []) hC hw (c_X9_isIn l _ _ (sA κ 2 (aN (t 2))) 0 ((sA κ 5 (aN ((sA κ 3 (aN (t 1))) - 1))) - 1)) 3 gX9_whyNotPlace_X9_isIn rfl rfl rfl (by decide +kernel) ⟨Nat.le_of_ble_eq_true rfl, Nat.le_of_ble_eq_true rfl⟩ rfl hl.1 rfl (Nat.le_of_ble_eq_true rfl) dX9_whyNotPlace_155 ⟨Nat.le_of_ble_eq_true rfl, Nat.le_of_ble_eq_true rfl⟩) (fun r_7 u_8 H locs h_6 hw => ?_)
      by_cases c_9 : pIn (sA κ 2 (aN (t 2))) 0 ((sA κ 5 (aN ((sA κ 3 (aN (t 1))) - 1))) - 1)
      · rw [if_pos c_9] at h_6
        subst h_6
        refine lv_if_ne (tgt := 163) hx hb dX9_whyNotPlace_158 (by decide) (fun _ => ?_) (fun c_ => absurd c_ (by decide))
        refine lv_iload_n hx hb dX9_whyNotPlace_163 rfl (lv_at hl 2 rfl) ?_
        refine lv_if_eq (tgt := 210) hx hb dX9_whyNotPlace_164 (by decide) (fun c_ => absurd c_ (by decide)) (fun _ => ?_)
        refine lv_iload_n hx hb dX9_whyNotPlace_167 rfl (lv_at hl 3 rfl) ?_
        refine lv_bipush (v := 8) hx hb dX9_whyNotPlace_168 (by decide) ?_
        refine lv_icmp_ne (tgt := 210) hx hb dX9_whyNotPlace_170 (by decide) (fun _ => ?_) (fun c_ => absurd c_ (by decide))
        refine lv_iconst (v := 0) hx hb dX9_whyNotPlace_210 (by decide) ?_
        refine lv_istore (lv' := [(6, .int 0), (5, .int ((sA κ 3 (aN (t 1))) - 1)), (4, .int 7), (3, .int 1), (2, .int 7), (0, .ref (ad 0)), (1, .int 56)]) hx hb dX9_whyNotPlace_211 hl (by decide) rfl (fun ls hl => ?_)
        refine lv_iload hx hb dX9_whyNotPlace_213 (lv_at hl 0 rfl) ?_
        refine lv_if_eq (tgt := 234) hx hb dX9_whyNotPlace_215 (by decide) (fun _ => ?_) (fun c_ => absurd (by decide) c_)
        refine lv_iconst (v := 0) hx hb dX9_whyNotPlace_234 (by decide) ?_
        exact r_iret hC hr hlk hw () rfl ((if_neg c_4).trans ((if_neg c_5).trans (if_pos c_9))).symm (Nat.le_of_ble_eq_true rfl) (Nat.le_of_ble_eq_true rfl) dX9_whyNotPlace_235
      · rw [if_neg c_9] at h_6
        subst h_6
        refine lv_if_ne (tgt := 163) hx hb dX9_whyNotPlace_158 (by decide) (fun c_ => absurd (by decide) c_) (fun _ => ?_)
        refine lv_iconst (v := 2) hx hb dX9_whyNotPlace_161 (by decide) ?_
        exact r_iret hC hr hlk hw () rfl ((if_neg c_4).trans ((if_neg c_5).trans (if_neg c_9))).symm (Nat.le_of_ble_eq_true rfl) (Nat.le_of_ble_eq_true rfl) dX9_whyNotPlace_162
    · refine lv_iconst (v := 1) hx hb dX9_whyNotPlace_121 (by decide) ?_
      exact r_iret hC hr hlk hw () rfl ((if_neg c_4).trans (if_pos c_5)).symm (Nat.le_of_ble_eq_true rfl) (Nat.le_of_ble_eq_true rfl) dX9_whyNotPlace_122

set_option maxHeartbeats 4000000 in
set_option maxRecDepth 100000 in
theorem c_X9_whyNotPlace_57 (l : Launch) {D : va_G} {q : Nat → ClassId} {ad : Nat → Nat} {κ : KS} {t : Nat → Int32} (sz : Nat) (hs : okStep 57 (t 0) (t 1) (t 2)) (hW : WFm κ) : Met l yX9_whyNotPlace wsX9_whyNotPlace (rmz 3 63) (va_Pc [.ref (ad 0), .int 57] (rPre D q (wM q ad κ t) sz)) (va_Qi (fun (r : Int32) (u : Unit) => r = why κ 57 (t 0) (t 1) (t 2)) (fun (u : Unit) tt => rPo D (rA (wM q ad κ t) sz) (wM q ad κ t) tt) (rA (wM q ad κ t) sz)) 0 0 (rA (wM q ad κ t) sz) := by
  have hi0 : vp_in (t 0) 8 := hs.1
  have hi1 : vp_in (t 1) 8 := hs.2.1
  have hi2 : vp_in (t 2) 8 := hs.2.2
  refine r_start (cc := cX9_whyNotPlace) (maxL := 7) (ret := (some .int)) (by decide) rfl (Nat.le_of_ble_eq_true rfl) ?_
  intro p e s m below meth c ls hC hr hlk hnm hsz hw hl
  have hx := hC.1
  have hb := hC.2.1
  have hl : lv_has ls 7 [(0, .ref (ad 0)), (1, .int 57)] := hl
  refine lv_iload_n hx hb dX9_whyNotPlace_0 rfl (lv_at hl 1 rfl) ?_
  refine lv_bipush (v := 39) hx hb dX9_whyNotPlace_1 (by decide) ?_
  refine lv_isub hx hb dX9_whyNotPlace_3 ?_
  refine r_topi (x := 57 - 39) (y := 18) (by decide) ?_
  refine lv_bipush (v := 10) hx hb dX9_whyNotPlace_4 (by decide) ?_
  refine lv_irem hx hb dX9_whyNotPlace_6 (by decide) ?_
  refine r_topi (x := 18 - 18 / 10 * 10) (y := 8) (by decide) ?_
  refine lv_istore_n (lv' := [(2, .int 8), (0, .ref (ad 0)), (1, .int 57)]) hx hb dX9_whyNotPlace_7 rfl hl (by decide) rfl (fun ls hl => ?_)
  refine lv_iload_n hx hb dX9_whyNotPlace_8 rfl (lv_at hl 2 rfl) ?_
  refine lv_bipush (v := 49) hx hb dX9_whyNotPlace_9 (by decide) ?_
  refine lv_icmp_lt (tgt := 18) hx hb dX9_whyNotPlace_11 (by decide) (fun c_ => absurd c_ (by decide)) (fun _ => ?_)
  refine lv_iconst (v := 1) hx hb dX9_whyNotPlace_14 (by decide) ?_
  refine lv_goto (tgt := 19) hx hb dX9_whyNotPlace_15 (by decide) ?_
  refine lv_istore_n (lv' := [(3, .int 1), (2, .int 8), (0, .ref (ad 0)), (1, .int 57)]) hx hb dX9_whyNotPlace_19 rfl hl (by decide) rfl (fun ls hl => ?_)
  refine lv_iload_n hx hb dX9_whyNotPlace_20 rfl (lv_at hl 1 rfl) ?_
  refine lv_bipush (v := 9) hx hb dX9_whyNotPlace_21 (by decide) ?_
  refine lv_icmp_ge (tgt := 30) hx hb dX9_whyNotPlace_23 (by decide) (fun c_ => absurd c_ (by decide)) (fun _ => ?_)
  refine lv_iload_n hx hb dX9_whyNotPlace_26 rfl (lv_at hl 1 rfl) ?_
  refine lv_goto (tgt := 32) hx hb dX9_whyNotPlace_27 (by decide) ?_
  refine lv_istore (lv' := [(4, .int 8), (3, .int 1), (2, .int 8), (0, .ref (ad 0)), (1, .int 57)]) hx hb dX9_whyNotPlace_32 hl (by decide) rfl (fun ls hl => ?_)
  refine lv_aload_n hx hb dX9_whyNotPlace_34 rfl (lv_at hl 3 rfl) ?_
  refine lv_aload_n hx hb dX9_whyNotPlace_35 rfl (lv_at hl 3 rfl) ?_
  refine r_get hC hw rk9 in_X9_whyNotPlace_9 0 (wMl 0 (by decide)) wM0 8 (by decide) lk_X9_whyNotPlace_31 (v := .ref (ad 7)) rfl dX9_whyNotPlace_36 ?_
  refine lv_aload_n hx hb dX9_whyNotPlace_39 rfl (lv_at hl 3 rfl) ?_
  refine r_get hC hw rk9 in_X9_whyNotPlace_9 0 (wMl 0 (by decide)) wM0 31 (by decide) lk_X9_whyNotPlace_126 (v := .int (t 1)) rfl dX9_whyNotPlace_40 ?_
  refine r_iald hC hw 7 (wMl 7 (by decide)) wM7 (by assumption) dX9_whyNotPlace_43 ?_
  refine lv_iload hx hb dX9_whyNotPlace_44 (lv_at hl 0 rfl) ?_
  refine r_ki hw (r_runV (rest := []) hC hw 0 (c_X9_isWrong_8 l _ (sA κ 3 (aN (t 1))) (fun hn => wf_ref hW (by assumption) hn)) rk9 (wMl 0 (by decide)) wM0 2 gX9_whyNotPlace_X9_isWrong rfl rfl rfl (by decide +kernel) ⟨Nat.le_of_ble_eq_true rfl, Nat.le_of_ble_eq_true rfl⟩ rfl hl.1 rfl (Nat.le_of_ble_eq_true rfl) dX9_whyNotPlace_46 ⟨Nat.le_of_ble_eq_true rfl, Nat.le_of_ble_eq_true rfl⟩) (fun r_2 u_3 H locs h_1 hw => ?_)
  by_cases c_4 : pWrong κ (sA κ 3 (aN (t 1))) 8
  · rw [if_pos c_4] at h_1
    subst h_1
    refine lv_if_ne (tgt := 107) hx hb dX9_whyNotPlace_49 (by decide) (fun _ => ?_) (fun c_ => absurd c_ (by decide))
    refine lv_iconst (v := 4) hx hb dX9_whyNotPlace_107 (by decide) ?_
    exact r_iret hC hr hlk hw () rfl (if_pos c_4).symm (Nat.le_of_ble_eq_true rfl) (Nat.le_of_ble_eq_true rfl) dX9_whyNotPlace_108
  · rw [if_neg c_4] at h_1
    subst h_1
    refine lv_if_ne (tgt := 107) hx hb dX9_whyNotPlace_49 (by decide) (fun c_ => absurd (by decide) c_) (fun _ => ?_)
    refine lv_iload_n hx hb dX9_whyNotPlace_52 rfl (lv_at hl 1 rfl) ?_
    refine lv_if_eq (tgt := 80) hx hb dX9_whyNotPlace_53 (by decide) (fun c_ => absurd c_ (by decide)) (fun _ => ?_)
    refine lv_iload_n hx hb dX9_whyNotPlace_56 rfl (lv_at hl 2 rfl) ?_
    refine lv_bipush (v := 8) hx hb dX9_whyNotPlace_57 (by decide) ?_
    refine lv_icmp_ne (tgt := 80) hx hb dX9_whyNotPlace_59 (by decide) (fun c_ => absurd (by decide) c_) (fun _ => ?_)
    refine lv_aload_n hx hb dX9_whyNotPlace_62 rfl (lv_at hl 3 rfl) ?_
    refine lv_aload_n hx hb dX9_whyNotPlace_63 rfl (lv_at hl 3 rfl) ?_
    refine r_get hC hw rk9 in_X9_whyNotPlace_9 0 (wMl 0 (by decide)) wM0 8 (by decide) lk_X9_whyNotPlace_31 (v := .ref (ad 7)) rfl dX9_whyNotPlace_64 ?_
    refine lv_aload_n hx hb dX9_whyNotPlace_67 rfl (lv_at hl 3 rfl) ?_
    refine r_get hC hw rk9 in_X9_whyNotPlace_9 0 (wMl 0 (by decide)) wM0 30 (by decide) lk_X9_whyNotPlace_142 (v := .int (t 0)) rfl dX9_whyNotPlace_68 ?_
    refine r_iald hC hw 7 (wMl 7 (by decide)) wM7 (by assumption) dX9_whyNotPlace_71 ?_
    refine lv_bipush (v := 11) hx hb dX9_whyNotPlace_72 (by decide) ?_
    refine r_ki hw (r_runV (rest := []) hC hw 0 (c_X9_isWrong_11 l _ (sA κ 3 (aN (t 0))) (fun hn => wf_ref hW (by assumption) hn)) rk9 (wMl 0 (by decide)) wM0 2 gX9_whyNotPlace_X9_isWrong rfl rfl rfl (by decide +kernel) ⟨Nat.le_of_ble_eq_true rfl, Nat.le_of_ble_eq_true rfl⟩ rfl hl.1 rfl (Nat.le_of_ble_eq_true rfl) dX9_whyNotPlace_74 ⟨Nat.le_of_ble_eq_true rfl, Nat.le_of_ble_eq_true rfl⟩) (fun r_6 u_7 H locs h_5 hw => ?_)
    by_cases c_8 : pWrong κ (sA κ 3 (aN (t 0))) 11
    · rw [if_pos c_8] at h_5
      subst h_5
      refine lv_if_ne (tgt := 107) hx hb dX9_whyNotPlace_77 (by decide) (fun _ => ?_) (fun c_ => absurd c_ (by decide))
      refine lv_iconst (v := 4) hx hb dX9_whyNotPlace_107 (by decide) ?_
      exact r_iret hC hr hlk hw () rfl ((if_neg c_4).trans (if_pos c_8)).symm (Nat.le_of_ble_eq_true rfl) (Nat.le_of_ble_eq_true rfl) dX9_whyNotPlace_108
    · rw [if_neg c_8] at h_5
      subst h_5
      refine lv_if_ne (tgt := 107) hx hb dX9_whyNotPlace_77 (by decide) (fun c_ => absurd (by decide) c_) (fun _ => ?_)
      refine lv_iload_n hx hb dX9_whyNotPlace_80 rfl (lv_at hl 1 rfl) ?_
      refine lv_if_eq (tgt := 109) hx hb dX9_whyNotPlace_81 (by decide) (fun c_ => absurd c_ (by decide)) (fun _ => ?_)
      refine lv_iload_n hx hb dX9_whyNotPlace_84 rfl (lv_at hl 2 rfl) ?_
      refine lv_bipush (v := 9) hx hb dX9_whyNotPlace_85 (by decide) ?_
      refine lv_icmp_ne (tgt := 109) hx hb dX9_whyNotPlace_87 (by decide) (fun _ => ?_) (fun c_ => absurd c_ (by decide))
      refine lv_aload_n hx hb dX9_whyNotPlace_109 rfl (lv_at hl 3 rfl) ?_
      refine r_get hC hw rk9 in_X9_whyNotPlace_9 0 (wMl 0 (by decide)) wM0 8 (by decide) lk_X9_whyNotPlace_31 (v := .ref (ad 7)) rfl dX9_whyNotPlace_110 ?_
      refine lv_aload_n hx hb dX9_whyNotPlace_113 rfl (lv_at hl 3 rfl) ?_
      refine r_get hC hw rk9 in_X9_whyNotPlace_9 0 (wMl 0 (by decide)) wM0 31 (by decide) lk_X9_whyNotPlace_126 (v := .int (t 1)) rfl dX9_whyNotPlace_114 ?_
      refine r_iald hC hw 7 (wMl 7 (by decide)) wM7 (by assumption) dX9_whyNotPlace_117 ?_
      refine lv_if_ne (tgt := 123) hx hb dX9_whyNotPlace_118 (by decide) (fun c_9 => ?_) (fun c_9 => ?_)
      · refine lv_aload_n hx hb dX9_whyNotPlace_123 rfl (lv_at hl 3 rfl) ?_
        refine r_get hC hw rk9 in_X9_whyNotPlace_9 0 (wMl 0 (by decide)) wM0 8 (by decide) lk_X9_whyNotPlace_31 (v := .ref (ad 7)) rfl dX9_whyNotPlace_124 ?_
        refine lv_aload_n hx hb dX9_whyNotPlace_127 rfl (lv_at hl 3 rfl) ?_
        refine r_get hC hw rk9 in_X9_whyNotPlace_9 0 (wMl 0 (by decide)) wM0 31 (by decide) lk_X9_whyNotPlace_126 (v := .int (t 1)) rfl dX9_whyNotPlace_128 ?_
        refine r_iald hC hw 7 (wMl 7 (by decide)) wM7 (by assumption) dX9_whyNotPlace_131 ?_
        refine lv_iconst (v := 1) hx hb dX9_whyNotPlace_132 (by decide) ?_
        refine lv_isub hx hb dX9_whyNotPlace_133 ?_
        refine lv_istore (lv' := [(5, .int ((sA κ 3 (aN (t 1))) - 1)), (4, .int 8), (3, .int 1), (2, .int 8), (0, .ref (ad 0)), (1, .int 57)]) hx hb dX9_whyNotPlace_134 hl (by decide) rfl (fun ls hl => ?_)
        refine lv_aload_n hx hb dX9_whyNotPlace_136 rfl (lv_at hl 4 rfl) ?_
        refine r_get hC hw rk9 in_X9_whyNotPlace_9 0 (wMl 0 (by decide)) wM0 4 (by decide) lk_X9_whyNotPlace_16 (v := .ref (ad 3)) rfl dX9_whyNotPlace_137 ?_
        refine lv_aload_n hx hb dX9_whyNotPlace_140 rfl (lv_at hl 4 rfl) ?_
        refine r_get hC hw rk9 in_X9_whyNotPlace_9 0 (wMl 0 (by decide)) wM0 32 (by decide) lk_X9_whyNotPlace_123 (v := .int (t 2)) rfl dX9_whyNotPlace_141 ?_
        refine r_iald hC hw 3 (wMl 3 (by decide)) wM3 (by assumption) dX9_whyNotPlace_144 ?_
        refine lv_iconst (v := 0) hx hb dX9_whyNotPlace_145 (by decide) ?_
        refine lv_aload_n hx hb dX9_whyNotPlace_146 rfl (lv_at hl 4 rfl) ?_
        refine r_get hC hw rk9 in_X9_whyNotPlace_9 0 (wMl 0 (by decide)) wM0 10 (by decide) lk_X9_whyNotPlace_37 (v := .ref (ad 9)) rfl dX9_whyNotPlace_147 ?_
        refine lv_iload hx hb dX9_whyNotPlace_150 (lv_at hl 0 rfl) ?_
        refine r_iald hC hw 9 (wMl 9 (by decide)) wM9 (wf_ref hW (by assumption) (by assumption)) dX9_whyNotPlace_152 ?_
        refine lv_iconst (v := 1) hx hb dX9_whyNotPlace_153 (by decide) ?_
        refine lv_isub hx hb dX9_whyNotPlace_154 ?_
        refine r_ki hw (r_runS (rest := []) hC hw (c_X9_isIn l _ _ (sA κ 2 (aN (t 2))) 0 ((sA κ 5 (aN ((sA κ 3 (aN (t 1))) - 1))) - 1)) 3 gX9_whyNotPlace_X9_isIn rfl rfl rfl (by decide +kernel) ⟨Nat.le_of_ble_eq_true rfl, Nat.le_of_ble_eq_true rfl⟩ rfl hl.1 rfl (Nat.le_of_ble_eq_true rfl) dX9_whyNotPlace_155 ⟨Nat.le_of_ble_eq_true rfl, Nat.le_of_ble_eq_true rfl⟩) (fun r_11 u_12 H locs h_10 hw => ?_)
        by_cases c_13 : pIn (sA κ 2 (aN (t 2))) 0 ((sA κ 5 (aN ((sA κ 3 (aN (t 1))) - 1))) - 1)
        · rw [if_pos c_13] at h_10
          subst h_10
          refine lv_if_ne (tgt := 163) hx hb dX9_whyNotPlace_158 (by decide) (fun _ => ?_) (fun c_ => absurd c_ (by decide))
          refine lv_iload_n hx hb dX9_whyNotPlace_163 rfl (lv_at hl 2 rfl) ?_
          refine lv_if_eq (tgt := 210) hx hb dX9_whyNotPlace_164 (by decide) (fun c_ => absurd c_ (by decide)) (fun _ => ?_)
          refine lv_iload_n hx hb dX9_whyNotPlace_167 rfl (lv_at hl 3 rfl) ?_
          refine lv_bipush (v := 8) hx hb dX9_whyNotPlace_168 (by decide) ?_
          refine lv_icmp_ne (tgt := 210) hx hb dX9_whyNotPlace_170 (by decide) (fun c_ => absurd (by decide) c_) (fun _ => ?_)
          refine lv_aload_n hx hb dX9_whyNotPlace_173 rfl (lv_at hl 4 rfl) ?_
          refine r_get hC hw rk9 in_X9_whyNotPlace_9 0 (wMl 0 (by decide)) wM0 8 (by decide) lk_X9_whyNotPlace_31 (v := .ref (ad 7)) rfl dX9_whyNotPlace_174 ?_
          refine lv_aload_n hx hb dX9_whyNotPlace_177 rfl (lv_at hl 4 rfl) ?_
          refine r_get hC hw rk9 in_X9_whyNotPlace_9 0 (wMl 0 (by decide)) wM0 30 (by decide) lk_X9_whyNotPlace_142 (v := .int (t 0)) rfl dX9_whyNotPlace_178 ?_
          refine r_iald hC hw 7 (wMl 7 (by decide)) wM7 (by assumption) dX9_whyNotPlace_181 ?_
          refine lv_if_eq (tgt := 210) hx hb dX9_whyNotPlace_182 (by decide) (fun c_14 => ?_) (fun c_14 => ?_)
          · refine lv_iconst (v := 0) hx hb dX9_whyNotPlace_210 (by decide) ?_
            refine lv_istore (lv' := [(6, .int 0), (5, .int ((sA κ 3 (aN (t 1))) - 1)), (4, .int 8), (3, .int 1), (2, .int 8), (0, .ref (ad 0)), (1, .int 57)]) hx hb dX9_whyNotPlace_211 hl (by decide) rfl (fun ls hl => ?_)
            refine lv_iload hx hb dX9_whyNotPlace_213 (lv_at hl 0 rfl) ?_
            refine lv_if_eq (tgt := 234) hx hb dX9_whyNotPlace_215 (by decide) (fun _ => ?_) (fun c_ => absurd (by decide) c_)
            refine lv_iconst (v := 0) hx hb dX9_whyNotPlace_234 (by decide) ?_
            exact r_iret hC hr hlk hw () rfl ((if_neg c_4).trans ((if_neg c_8).trans ((if_neg c_9).trans ((if_pos c_13).trans (if_pos c_14))))).symm (Nat.le_of_ble_eq_true rfl) (Nat.le_of_ble_eq_true rfl) dX9_whyNotPlace_235
          · refine lv_aload_n hx hb dX9_whyNotPlace_185 rfl (lv_at hl 4 rfl) ?_
            refine r_get hC hw rk9 in_X9_whyNotPlace_9 0 (wMl 0 (by decide)) wM0 9 (by decide) lk_X9_whyNotPlace_34 (v := .ref (ad 8)) rfl dX9_whyNotPlace_186 ?_
            refine lv_aload_n hx hb dX9_whyNotPlace_189 rfl (lv_at hl 4 rfl) ?_
            refine r_get hC hw rk9 in_X9_whyNotPlace_9 0 (wMl 0 (by decide)) wM0 8 (by decide) lk_X9_whyNotPlace_31 (v := .ref (ad 7)) rfl dX9_whyNotPlace_190 ?_
            refine lv_aload_n hx hb dX9_whyNotPlace_193 rfl (lv_at hl 4 rfl) ?_
            refine r_get hC hw rk9 in_X9_whyNotPlace_9 0 (wMl 0 (by decide)) wM0 30 (by decide) lk_X9_whyNotPlace_142 (v := .int (t 0)) rfl dX9_whyNotPlace_194 ?_
            refine r_iald hC hw 7 (wMl 7 (by decide)) wM7 (by assumption) dX9_whyNotPlace_197 ?_
            refine lv_iconst (v := 1) hx hb dX9_whyNotPlace_198 (by decide) ?_
            refine lv_isub hx hb dX9_whyNotPlace_199 ?_
            refine r_iald hC hw 8 (wMl 8 (by decide)) wM8 (wf_ref hW (by assumption) (by assumption)) dX9_whyNotPlace_200 ?_
            refine lv_bipush (v := 11) hx hb dX9_whyNotPlace_201 (by decide) ?_
            refine lv_icmp_ne (tgt := 210) hx hb dX9_whyNotPlace_203 (by decide) (fun c_15 => ?_) (fun c_15 => ?_)
            · refine lv_iconst (v := 0) hx hb dX9_whyNotPlace_210 (by decide) ?_
              refine lv_istore (lv' := [(6, .int 0), (5, .int ((sA κ 3 (aN (t 1))) - 1)), (4, .int 8), (3, .int 1), (2, .int 8), (0, .ref (ad 0)), (1, .int 57)]) hx hb dX9_whyNotPlace_211 hl (by decide) rfl (fun ls hl => ?_)
              refine lv_iload hx hb dX9_whyNotPlace_213 (lv_at hl 0 rfl) ?_
              refine lv_if_eq (tgt := 234) hx hb dX9_whyNotPlace_215 (by decide) (fun _ => ?_) (fun c_ => absurd (by decide) c_)
              refine lv_iconst (v := 0) hx hb dX9_whyNotPlace_234 (by decide) ?_
              exact r_iret hC hr hlk hw () rfl ((if_neg c_4).trans ((if_neg c_8).trans ((if_neg c_9).trans ((if_pos c_13).trans ((if_neg c_14).trans (if_neg c_15)))))).symm (Nat.le_of_ble_eq_true rfl) (Nat.le_of_ble_eq_true rfl) dX9_whyNotPlace_235
            · refine lv_iconst (v := 1) hx hb dX9_whyNotPlace_206 (by decide) ?_
              refine lv_goto (tgt := 211) hx hb dX9_whyNotPlace_207 (by decide) ?_
              refine lv_istore (lv' := [(6, .int 1), (5, .int ((sA κ 3 (aN (t 1))) - 1)), (4, .int 8), (3, .int 1), (2, .int 8), (0, .ref (ad 0)), (1, .int 57)]) hx hb dX9_whyNotPlace_211 hl (by decide) rfl (fun ls hl => ?_)
              refine lv_iload hx hb dX9_whyNotPlace_213 (lv_at hl 0 rfl) ?_
              refine lv_if_eq (tgt := 234) hx hb dX9_whyNotPlace_215 (by decide) (fun c_ => absurd c_ (by decide)) (fun _ => ?_)
              refine lv_aload_n hx hb dX9_whyNotPlace_218 rfl (lv_at hl 5 rfl) ?_
              refine r_get hC hw rk9 in_X9_whyNotPlace_9 0 (wMl 0 (by decide)) wM0 9 (by decide) lk_X9_whyNotPlace_34 (v := .ref (ad 8)) rfl dX9_whyNotPlace_219 ?_
              refine lv_iload hx hb dX9_whyNotPlace_222 (lv_at hl 1 rfl) ?_
              refine r_iald hC hw 8 (wMl 8 (by decide)) wM8 (wf_ref hW (by assumption) (by assumption)) dX9_whyNotPlace_224 ?_
              refine lv_bipush (v := 9) hx hb dX9_whyNotPlace_225 (by decide) ?_
              refine lv_icmp_ne (tgt := 234) hx hb dX9_whyNotPlace_227 (by decide) (fun c_16 => ?_) (fun c_16 => ?_)
              · refine lv_iconst (v := 0) hx hb dX9_whyNotPlace_234 (by decide) ?_
                exact r_iret hC hr hlk hw () rfl ((if_neg c_4).trans ((if_neg c_8).trans ((if_neg c_9).trans ((if_pos c_13).trans ((if_neg c_14).trans ((if_pos c_15).trans (if_neg c_16))))))).symm (Nat.le_of_ble_eq_true rfl) (Nat.le_of_ble_eq_true rfl) dX9_whyNotPlace_235
              · refine lv_iconst (v := 5) hx hb dX9_whyNotPlace_230 (by decide) ?_
                refine lv_goto (tgt := 235) hx hb dX9_whyNotPlace_231 (by decide) ?_
                exact r_iret hC hr hlk hw () rfl ((if_neg c_4).trans ((if_neg c_8).trans ((if_neg c_9).trans ((if_pos c_13).trans ((if_neg c_14).trans ((if_pos c_15).trans (if_pos c_16))))))).symm (Nat.le_of_ble_eq_true rfl) (Nat.le_of_ble_eq_true rfl) dX9_whyNotPlace_235
        · rw [if_neg c_13] at h_10
          subst h_10
          refine lv_if_ne (tgt := 163) hx hb dX9_whyNotPlace_158 (by decide) (fun c_ => absurd (by decide) c_) (fun _ => ?_)
          refine lv_iconst (v := 2) hx hb dX9_whyNotPlace_161 (by decide) ?_
          exact r_iret hC hr hlk hw () rfl ((if_neg c_4).trans ((if_neg c_8).trans ((if_neg c_9).trans (if_neg c_13)))).symm (Nat.le_of_ble_eq_true rfl) (Nat.le_of_ble_eq_true rfl) dX9_whyNotPlace_162
      · refine lv_iconst (v := 1) hx hb dX9_whyNotPlace_121 (by decide) ?_
        exact r_iret hC hr hlk hw () rfl ((if_neg c_4).trans ((if_neg c_8).trans (if_pos c_9))).symm (Nat.le_of_ble_eq_true rfl) (Nat.le_of_ble_eq_true rfl) dX9_whyNotPlace_122

set_option maxHeartbeats 4000000 in
set_option maxRecDepth 100000 in
theorem c_X9_whyNotPlace_58 (l : Launch) {D : va_G} {q : Nat → ClassId} {ad : Nat → Nat} {κ : KS} {t : Nat → Int32} (sz : Nat) (hs : okStep 58 (t 0) (t 1) (t 2)) (hW : WFm κ) : Met l yX9_whyNotPlace wsX9_whyNotPlace (rmz 3 63) (va_Pc [.ref (ad 0), .int 58] (rPre D q (wM q ad κ t) sz)) (va_Qi (fun (r : Int32) (u : Unit) => r = why κ 58 (t 0) (t 1) (t 2)) (fun (u : Unit) tt => rPo D (rA (wM q ad κ t) sz) (wM q ad κ t) tt) (rA (wM q ad κ t) sz)) 0 0 (rA (wM q ad κ t) sz) := by
  have hi0 : vp_in (t 0) 8 := hs.1
  have hi1 : vp_in (t 1) 8 := hs.2.1
  have hi2 : vp_in (t 2) 8 := hs.2.2
  refine r_start (cc := cX9_whyNotPlace) (maxL := 7) (ret := (some .int)) (by decide) rfl (Nat.le_of_ble_eq_true rfl) ?_
  intro p e s m below meth c ls hC hr hlk hnm hsz hw hl
  have hx := hC.1
  have hb := hC.2.1
  have hl : lv_has ls 7 [(0, .ref (ad 0)), (1, .int 58)] := hl
  refine lv_iload_n hx hb dX9_whyNotPlace_0 rfl (lv_at hl 1 rfl) ?_
  refine lv_bipush (v := 39) hx hb dX9_whyNotPlace_1 (by decide) ?_
  refine lv_isub hx hb dX9_whyNotPlace_3 ?_
  refine r_topi (x := 58 - 39) (y := 19) (by decide) ?_
  refine lv_bipush (v := 10) hx hb dX9_whyNotPlace_4 (by decide) ?_
  refine lv_irem hx hb dX9_whyNotPlace_6 (by decide) ?_
  refine r_topi (x := 19 - 19 / 10 * 10) (y := 9) (by decide) ?_
  refine lv_istore_n (lv' := [(2, .int 9), (0, .ref (ad 0)), (1, .int 58)]) hx hb dX9_whyNotPlace_7 rfl hl (by decide) rfl (fun ls hl => ?_)
  refine lv_iload_n hx hb dX9_whyNotPlace_8 rfl (lv_at hl 2 rfl) ?_
  refine lv_bipush (v := 49) hx hb dX9_whyNotPlace_9 (by decide) ?_
  refine lv_icmp_lt (tgt := 18) hx hb dX9_whyNotPlace_11 (by decide) (fun c_ => absurd c_ (by decide)) (fun _ => ?_)
  refine lv_iconst (v := 1) hx hb dX9_whyNotPlace_14 (by decide) ?_
  refine lv_goto (tgt := 19) hx hb dX9_whyNotPlace_15 (by decide) ?_
  refine lv_istore_n (lv' := [(3, .int 1), (2, .int 9), (0, .ref (ad 0)), (1, .int 58)]) hx hb dX9_whyNotPlace_19 rfl hl (by decide) rfl (fun ls hl => ?_)
  refine lv_iload_n hx hb dX9_whyNotPlace_20 rfl (lv_at hl 1 rfl) ?_
  refine lv_bipush (v := 9) hx hb dX9_whyNotPlace_21 (by decide) ?_
  refine lv_icmp_ge (tgt := 30) hx hb dX9_whyNotPlace_23 (by decide) (fun _ => ?_) (fun c_ => absurd (by decide) c_)
  refine lv_bipush (v := 10) hx hb dX9_whyNotPlace_30 (by decide) ?_
  refine lv_istore (lv' := [(4, .int 10), (3, .int 1), (2, .int 9), (0, .ref (ad 0)), (1, .int 58)]) hx hb dX9_whyNotPlace_32 hl (by decide) rfl (fun ls hl => ?_)
  refine lv_aload_n hx hb dX9_whyNotPlace_34 rfl (lv_at hl 3 rfl) ?_
  refine lv_aload_n hx hb dX9_whyNotPlace_35 rfl (lv_at hl 3 rfl) ?_
  refine r_get hC hw rk9 in_X9_whyNotPlace_9 0 (wMl 0 (by decide)) wM0 8 (by decide) lk_X9_whyNotPlace_31 (v := .ref (ad 7)) rfl dX9_whyNotPlace_36 ?_
  refine lv_aload_n hx hb dX9_whyNotPlace_39 rfl (lv_at hl 3 rfl) ?_
  refine r_get hC hw rk9 in_X9_whyNotPlace_9 0 (wMl 0 (by decide)) wM0 31 (by decide) lk_X9_whyNotPlace_126 (v := .int (t 1)) rfl dX9_whyNotPlace_40 ?_
  refine r_iald hC hw 7 (wMl 7 (by decide)) wM7 (by assumption) dX9_whyNotPlace_43 ?_
  refine lv_iload hx hb dX9_whyNotPlace_44 (lv_at hl 0 rfl) ?_
  refine r_ki hw (r_runV (rest := []) hC hw 0 (c_X9_isWrong_10 l _ (sA κ 3 (aN (t 1))) (fun hn => wf_ref hW (by assumption) hn)) rk9 (wMl 0 (by decide)) wM0 2 gX9_whyNotPlace_X9_isWrong rfl rfl rfl (by decide +kernel) ⟨Nat.le_of_ble_eq_true rfl, Nat.le_of_ble_eq_true rfl⟩ rfl hl.1 rfl (Nat.le_of_ble_eq_true rfl) dX9_whyNotPlace_46 ⟨Nat.le_of_ble_eq_true rfl, Nat.le_of_ble_eq_true rfl⟩) (fun r_2 u_3 H locs h_1 hw => ?_)
  by_cases c_4 : pWrong κ (sA κ 3 (aN (t 1))) 10
  · rw [if_pos c_4] at h_1
    subst h_1
    refine lv_if_ne (tgt := 107) hx hb dX9_whyNotPlace_49 (by decide) (fun _ => ?_) (fun c_ => absurd c_ (by decide))
    refine lv_iconst (v := 4) hx hb dX9_whyNotPlace_107 (by decide) ?_
    exact r_iret hC hr hlk hw () rfl (if_pos c_4).symm (Nat.le_of_ble_eq_true rfl) (Nat.le_of_ble_eq_true rfl) dX9_whyNotPlace_108
  · rw [if_neg c_4] at h_1
    subst h_1
    refine lv_if_ne (tgt := 107) hx hb dX9_whyNotPlace_49 (by decide) (fun c_ => absurd (by decide) c_) (fun _ => ?_)
    refine lv_iload_n hx hb dX9_whyNotPlace_52 rfl (lv_at hl 1 rfl) ?_
    refine lv_if_eq (tgt := 80) hx hb dX9_whyNotPlace_53 (by decide) (fun c_ => absurd c_ (by decide)) (fun _ => ?_)
    refine lv_iload_n hx hb dX9_whyNotPlace_56 rfl (lv_at hl 2 rfl) ?_
    refine lv_bipush (v := 8) hx hb dX9_whyNotPlace_57 (by decide) ?_
    refine lv_icmp_ne (tgt := 80) hx hb dX9_whyNotPlace_59 (by decide) (fun _ => ?_) (fun c_ => absurd c_ (by decide))
    refine lv_iload_n hx hb dX9_whyNotPlace_80 rfl (lv_at hl 1 rfl) ?_
    refine lv_if_eq (tgt := 109) hx hb dX9_whyNotPlace_81 (by decide) (fun c_ => absurd c_ (by decide)) (fun _ => ?_)
    refine lv_iload_n hx hb dX9_whyNotPlace_84 rfl (lv_at hl 2 rfl) ?_
    refine lv_bipush (v := 9) hx hb dX9_whyNotPlace_85 (by decide) ?_
    refine lv_icmp_ne (tgt := 109) hx hb dX9_whyNotPlace_87 (by decide) (fun c_ => absurd (by decide) c_) (fun _ => ?_)
    refine lv_aload_n hx hb dX9_whyNotPlace_90 rfl (lv_at hl 3 rfl) ?_
    refine lv_aload_n hx hb dX9_whyNotPlace_91 rfl (lv_at hl 3 rfl) ?_
    refine r_get hC hw rk9 in_X9_whyNotPlace_9 0 (wMl 0 (by decide)) wM0 8 (by decide) lk_X9_whyNotPlace_31 (v := .ref (ad 7)) rfl dX9_whyNotPlace_92 ?_
    refine lv_aload_n hx hb dX9_whyNotPlace_95 rfl (lv_at hl 3 rfl) ?_
    refine r_get hC hw rk9 in_X9_whyNotPlace_9 0 (wMl 0 (by decide)) wM0 30 (by decide) lk_X9_whyNotPlace_142 (v := .int (t 0)) rfl dX9_whyNotPlace_96 ?_
    refine r_iald hC hw 7 (wMl 7 (by decide)) wM7 (by assumption) dX9_whyNotPlace_99 ?_
    refine lv_iconst (v := 4) hx hb dX9_whyNotPlace_100 (by decide) ?_
    refine r_ki hw (r_runV (rest := []) hC hw 0 (c_X9_isWrong_4 l _ (sA κ 3 (aN (t 0))) (fun hn => wf_ref hW (by assumption) hn)) rk9 (wMl 0 (by decide)) wM0 2 gX9_whyNotPlace_X9_isWrong rfl rfl rfl (by decide +kernel) ⟨Nat.le_of_ble_eq_true rfl, Nat.le_of_ble_eq_true rfl⟩ rfl hl.1 rfl (Nat.le_of_ble_eq_true rfl) dX9_whyNotPlace_101 ⟨Nat.le_of_ble_eq_true rfl, Nat.le_of_ble_eq_true rfl⟩) (fun r_6 u_7 H locs h_5 hw => ?_)
    by_cases c_8 : pWrong κ (sA κ 3 (aN (t 0))) 4
    · rw [if_pos c_8] at h_5
      subst h_5
      refine lv_if_eq (tgt := 109) hx hb dX9_whyNotPlace_104 (by decide) (fun c_ => absurd c_ (by decide)) (fun _ => ?_)
      refine lv_iconst (v := 4) hx hb dX9_whyNotPlace_107 (by decide) ?_
      exact r_iret hC hr hlk hw () rfl ((if_neg c_4).trans (if_pos c_8)).symm (Nat.le_of_ble_eq_true rfl) (Nat.le_of_ble_eq_true rfl) dX9_whyNotPlace_108
    · rw [if_neg c_8] at h_5
      subst h_5
      refine lv_if_eq (tgt := 109) hx hb dX9_whyNotPlace_104 (by decide) (fun _ => ?_) (fun c_ => absurd (by decide) c_)
      refine lv_aload_n hx hb dX9_whyNotPlace_109 rfl (lv_at hl 3 rfl) ?_
      refine r_get hC hw rk9 in_X9_whyNotPlace_9 0 (wMl 0 (by decide)) wM0 8 (by decide) lk_X9_whyNotPlace_31 (v := .ref (ad 7)) rfl dX9_whyNotPlace_110 ?_
      refine lv_aload_n hx hb dX9_whyNotPlace_113 rfl (lv_at hl 3 rfl) ?_
      refine r_get hC hw rk9 in_X9_whyNotPlace_9 0 (wMl 0 (by decide)) wM0 31 (by decide) lk_X9_whyNotPlace_126 (v := .int (t 1)) rfl dX9_whyNotPlace_114 ?_
      refine r_iald hC hw 7 (wMl 7 (by decide)) wM7 (by assumption) dX9_whyNotPlace_117 ?_
      refine lv_if_ne (tgt := 123) hx hb dX9_whyNotPlace_118 (by decide) (fun c_9 => ?_) (fun c_9 => ?_)
      · refine lv_aload_n hx hb dX9_whyNotPlace_123 rfl (lv_at hl 3 rfl) ?_
        refine r_get hC hw rk9 in_X9_whyNotPlace_9 0 (wMl 0 (by decide)) wM0 8 (by decide) lk_X9_whyNotPlace_31 (v := .ref (ad 7)) rfl dX9_whyNotPlace_124 ?_
        refine lv_aload_n hx hb dX9_whyNotPlace_127 rfl (lv_at hl 3 rfl) ?_
        refine r_get hC hw rk9 in_X9_whyNotPlace_9 0 (wMl 0 (by decide)) wM0 31 (by decide) lk_X9_whyNotPlace_126 (v := .int (t 1)) rfl dX9_whyNotPlace_128 ?_
        refine r_iald hC hw 7 (wMl 7 (by decide)) wM7 (by assumption) dX9_whyNotPlace_131 ?_
        refine lv_iconst (v := 1) hx hb dX9_whyNotPlace_132 (by decide) ?_
        refine lv_isub hx hb dX9_whyNotPlace_133 ?_
        refine lv_istore (lv' := [(5, .int ((sA κ 3 (aN (t 1))) - 1)), (4, .int 10), (3, .int 1), (2, .int 9), (0, .ref (ad 0)), (1, .int 58)]) hx hb dX9_whyNotPlace_134 hl (by decide) rfl (fun ls hl => ?_)
        refine lv_aload_n hx hb dX9_whyNotPlace_136 rfl (lv_at hl 4 rfl) ?_
        refine r_get hC hw rk9 in_X9_whyNotPlace_9 0 (wMl 0 (by decide)) wM0 4 (by decide) lk_X9_whyNotPlace_16 (v := .ref (ad 3)) rfl dX9_whyNotPlace_137 ?_
        refine lv_aload_n hx hb dX9_whyNotPlace_140 rfl (lv_at hl 4 rfl) ?_
        refine r_get hC hw rk9 in_X9_whyNotPlace_9 0 (wMl 0 (by decide)) wM0 32 (by decide) lk_X9_whyNotPlace_123 (v := .int (t 2)) rfl dX9_whyNotPlace_141 ?_
        refine r_iald hC hw 3 (wMl 3 (by decide)) wM3 (by assumption) dX9_whyNotPlace_144 ?_
        refine lv_iconst (v := 0) hx hb dX9_whyNotPlace_145 (by decide) ?_
        refine lv_aload_n hx hb dX9_whyNotPlace_146 rfl (lv_at hl 4 rfl) ?_
        refine r_get hC hw rk9 in_X9_whyNotPlace_9 0 (wMl 0 (by decide)) wM0 10 (by decide) lk_X9_whyNotPlace_37 (v := .ref (ad 9)) rfl dX9_whyNotPlace_147 ?_
        refine lv_iload hx hb dX9_whyNotPlace_150 (lv_at hl 0 rfl) ?_
        refine r_iald hC hw 9 (wMl 9 (by decide)) wM9 (wf_ref hW (by assumption) (by assumption)) dX9_whyNotPlace_152 ?_
        refine lv_iconst (v := 1) hx hb dX9_whyNotPlace_153 (by decide) ?_
        refine lv_isub hx hb dX9_whyNotPlace_154 ?_
        refine r_ki hw (r_runS (rest := []) hC hw (c_X9_isIn l _ _ (sA κ 2 (aN (t 2))) 0 ((sA κ 5 (aN ((sA κ 3 (aN (t 1))) - 1))) - 1)) 3 gX9_whyNotPlace_X9_isIn rfl rfl rfl (by decide +kernel) ⟨Nat.le_of_ble_eq_true rfl, Nat.le_of_ble_eq_true rfl⟩ rfl hl.1 rfl (Nat.le_of_ble_eq_true rfl) dX9_whyNotPlace_155 ⟨Nat.le_of_ble_eq_true rfl, Nat.le_of_ble_eq_true rfl⟩) (fun r_11 u_12 H locs h_10 hw => ?_)
        by_cases c_13 : pIn (sA κ 2 (aN (t 2))) 0 ((sA κ 5 (aN ((sA κ 3 (aN (t 1))) - 1))) - 1)
        · rw [if_pos c_13] at h_10
          subst h_10
          refine lv_if_ne (tgt := 163) hx hb dX9_whyNotPlace_158 (by decide) (fun _ => ?_) (fun c_ => absurd c_ (by decide))
          refine lv_iload_n hx hb dX9_whyNotPlace_163 rfl (lv_at hl 2 rfl) ?_
          refine lv_if_eq (tgt := 210) hx hb dX9_whyNotPlace_164 (by decide) (fun c_ => absurd c_ (by decide)) (fun _ => ?_)
          refine lv_iload_n hx hb dX9_whyNotPlace_167 rfl (lv_at hl 3 rfl) ?_
          refine lv_bipush (v := 8) hx hb dX9_whyNotPlace_168 (by decide) ?_
          refine lv_icmp_ne (tgt := 210) hx hb dX9_whyNotPlace_170 (by decide) (fun _ => ?_) (fun c_ => absurd c_ (by decide))
          refine lv_iconst (v := 0) hx hb dX9_whyNotPlace_210 (by decide) ?_
          refine lv_istore (lv' := [(6, .int 0), (5, .int ((sA κ 3 (aN (t 1))) - 1)), (4, .int 10), (3, .int 1), (2, .int 9), (0, .ref (ad 0)), (1, .int 58)]) hx hb dX9_whyNotPlace_211 hl (by decide) rfl (fun ls hl => ?_)
          refine lv_iload hx hb dX9_whyNotPlace_213 (lv_at hl 0 rfl) ?_
          refine lv_if_eq (tgt := 234) hx hb dX9_whyNotPlace_215 (by decide) (fun _ => ?_) (fun c_ => absurd (by decide) c_)
          refine lv_iconst (v := 0) hx hb dX9_whyNotPlace_234 (by decide) ?_
          exact r_iret hC hr hlk hw () rfl ((if_neg c_4).trans ((if_neg c_8).trans ((if_neg c_9).trans (if_pos c_13)))).symm (Nat.le_of_ble_eq_true rfl) (Nat.le_of_ble_eq_true rfl) dX9_whyNotPlace_235
        · rw [if_neg c_13] at h_10
          subst h_10
          refine lv_if_ne (tgt := 163) hx hb dX9_whyNotPlace_158 (by decide) (fun c_ => absurd (by decide) c_) (fun _ => ?_)
          refine lv_iconst (v := 2) hx hb dX9_whyNotPlace_161 (by decide) ?_
          exact r_iret hC hr hlk hw () rfl ((if_neg c_4).trans ((if_neg c_8).trans ((if_neg c_9).trans (if_neg c_13)))).symm (Nat.le_of_ble_eq_true rfl) (Nat.le_of_ble_eq_true rfl) dX9_whyNotPlace_162
      · refine lv_iconst (v := 1) hx hb dX9_whyNotPlace_121 (by decide) ?_
        exact r_iret hC hr hlk hw () rfl ((if_neg c_4).trans ((if_neg c_8).trans (if_pos c_9))).symm (Nat.le_of_ble_eq_true rfl) (Nat.le_of_ble_eq_true rfl) dX9_whyNotPlace_122

set_option maxHeartbeats 4000000 in
set_option maxRecDepth 100000 in
theorem c_X9_whyNotThing_38 (l : Launch) {D : va_G} {q : Nat → ClassId} {ad : Nat → Nat} {κ : KS} {t : Nat → Int32} (sz : Nat) (hs : okStep 38 (t 0) (t 1) (t 2)) (hW : WFm κ) : Met l yX9_whyNotThing wsX9_whyNotThing (rmz 4 89) (va_Pc [.ref (ad 0), .int 38] (rPre D q (wM q ad κ t) sz)) (va_Qi (fun (r : Int32) (u : Unit) => r = why κ 38 (t 0) (t 1) (t 2)) (fun (u : Unit) tt => rPo D (rA (wM q ad κ t) sz) (wM q ad κ t) tt) (rA (wM q ad κ t) sz)) 0 0 (rA (wM q ad κ t) sz) := by
  have hi0 : vp_in (t 0) 8 := hs.1
  have hi1 : vp_in (t 1) 8 := hs.2.1
  refine r_start (cc := cX9_whyNotThing) (maxL := 2) (ret := (some .int)) (by decide) rfl (Nat.le_of_ble_eq_true rfl) ?_
  intro p e s m below meth c ls hC hr hlk hnm hsz hw hl
  have hx := hC.1
  have hb := hC.2.1
  have hl : lv_has ls 2 [(0, .ref (ad 0)), (1, .int 38)] := hl
  refine lv_iload_n hx hb dX9_whyNotThing_0 rfl (lv_at hl 1 rfl) ?_
  refine lv_bipush (v := 38) hx hb dX9_whyNotThing_1 (by decide) ?_
  refine lv_icmp_ne (tgt := 50) hx hb dX9_whyNotThing_3 (by decide) (fun c_ => absurd (by decide) c_) (fun _ => ?_)
  refine lv_aload_n hx hb dX9_whyNotThing_6 rfl (lv_at hl 0 rfl) ?_
  refine r_get hC hw rk9 in_X9_whyNotThing_9 0 (wMl 0 (by decide)) wM0 8 (by decide) lk_X9_whyNotThing_31 (v := .ref (ad 7)) rfl dX9_whyNotThing_7 ?_
  refine lv_aload_n hx hb dX9_whyNotThing_10 rfl (lv_at hl 0 rfl) ?_
  refine r_get hC hw rk9 in_X9_whyNotThing_9 0 (wMl 0 (by decide)) wM0 31 (by decide) lk_X9_whyNotThing_126 (v := .int (t 1)) rfl dX9_whyNotThing_11 ?_
  refine r_iald hC hw 7 (wMl 7 (by decide)) wM7 (by assumption) dX9_whyNotThing_14 ?_
  refine lv_if_ne (tgt := 22) hx hb dX9_whyNotThing_15 (by decide) (fun c_1 => ?_) (fun c_1 => ?_)
  · refine lv_aload_n hx hb dX9_whyNotThing_22 rfl (lv_at hl 0 rfl) ?_
    refine r_get hC hw rk9 in_X9_whyNotThing_9 0 (wMl 0 (by decide)) wM0 9 (by decide) lk_X9_whyNotThing_34 (v := .ref (ad 8)) rfl dX9_whyNotThing_23 ?_
    refine lv_aload_n hx hb dX9_whyNotThing_26 rfl (lv_at hl 0 rfl) ?_
    refine r_get hC hw rk9 in_X9_whyNotThing_9 0 (wMl 0 (by decide)) wM0 8 (by decide) lk_X9_whyNotThing_31 (v := .ref (ad 7)) rfl dX9_whyNotThing_27 ?_
    refine lv_aload_n hx hb dX9_whyNotThing_30 rfl (lv_at hl 0 rfl) ?_
    refine r_get hC hw rk9 in_X9_whyNotThing_9 0 (wMl 0 (by decide)) wM0 31 (by decide) lk_X9_whyNotThing_126 (v := .int (t 1)) rfl dX9_whyNotThing_31 ?_
    refine r_iald hC hw 7 (wMl 7 (by decide)) wM7 (by assumption) dX9_whyNotThing_34 ?_
    refine lv_iconst (v := 1) hx hb dX9_whyNotThing_35 (by decide) ?_
    refine lv_isub hx hb dX9_whyNotThing_36 ?_
    refine r_iald hC hw 8 (wMl 8 (by decide)) wM8 (wf_ref hW (by assumption) (by assumption)) dX9_whyNotThing_37 ?_
    refine r_ki hw (r_runS (rest := []) hC hw (c_X9_isRow l _ _ (sA κ 4 (aN ((sA κ 3 (aN (t 1))) - 1)))) 1 gX9_whyNotThing_X9_isRow rfl rfl rfl (by decide +kernel) ⟨Nat.le_of_ble_eq_true rfl, Nat.le_of_ble_eq_true rfl⟩ rfl hl.1 rfl (Nat.le_of_ble_eq_true rfl) dX9_whyNotThing_38 ⟨Nat.le_of_ble_eq_true rfl, Nat.le_of_ble_eq_true rfl⟩) (fun r_3 u_4 H locs h_2 hw => ?_)
    by_cases c_5 : pRow (sA κ 4 (aN ((sA κ 3 (aN (t 1))) - 1)))
    · rw [if_pos c_5] at h_2
      subst h_2
      refine lv_if_eq (tgt := 48) hx hb dX9_whyNotThing_41 (by decide) (fun c_ => absurd c_ (by decide)) (fun _ => ?_)
      refine lv_iconst (v := 0) hx hb dX9_whyNotThing_44 (by decide) ?_
      refine lv_goto (tgt := 49) hx hb dX9_whyNotThing_45 (by decide) ?_
      exact r_iret hC hr hlk hw () rfl ((if_neg c_1).trans (if_pos c_5)).symm (Nat.le_of_ble_eq_true rfl) (Nat.le_of_ble_eq_true rfl) dX9_whyNotThing_49
    · rw [if_neg c_5] at h_2
      subst h_2
      refine lv_if_eq (tgt := 48) hx hb dX9_whyNotThing_41 (by decide) (fun _ => ?_) (fun c_ => absurd (by decide) c_)
      refine lv_iconst (v := 4) hx hb dX9_whyNotThing_48 (by decide) ?_
      exact r_iret hC hr hlk hw () rfl ((if_neg c_1).trans (if_neg c_5)).symm (Nat.le_of_ble_eq_true rfl) (Nat.le_of_ble_eq_true rfl) dX9_whyNotThing_49
  · refine lv_iconst (v := 1) hx hb dX9_whyNotThing_18 (by decide) ?_
    refine lv_goto (tgt := 49) hx hb dX9_whyNotThing_19 (by decide) ?_
    exact r_iret hC hr hlk hw () rfl (if_pos c_1).symm (Nat.le_of_ble_eq_true rfl) (Nat.le_of_ble_eq_true rfl) dX9_whyNotThing_49

set_option maxHeartbeats 4000000 in
set_option maxRecDepth 100000 in
theorem c_X9_whyNotThing_39 (l : Launch) {D : va_G} {q : Nat → ClassId} {ad : Nat → Nat} {κ : KS} {t : Nat → Int32} (sz : Nat) (hs : okStep 39 (t 0) (t 1) (t 2)) (hW : WFm κ) : Met l yX9_whyNotThing wsX9_whyNotThing (rmz 4 89) (va_Pc [.ref (ad 0), .int 39] (rPre D q (wM q ad κ t) sz)) (va_Qi (fun (r : Int32) (u : Unit) => r = why κ 39 (t 0) (t 1) (t 2)) (fun (u : Unit) tt => rPo D (rA (wM q ad κ t) sz) (wM q ad κ t) tt) (rA (wM q ad κ t) sz)) 0 0 (rA (wM q ad κ t) sz) := by
  have hi0 : vp_in (t 0) 8 := hs.1
  have hi1 : vp_in (t 1) 8 := hs.2.1
  have hi2 : vp_in (t 2) 8 := hs.2.2
  refine r_start (cc := cX9_whyNotThing) (maxL := 2) (ret := (some .int)) (by decide) rfl (Nat.le_of_ble_eq_true rfl) ?_
  intro p e s m below meth c ls hC hr hlk hnm hsz hw hl
  have hx := hC.1
  have hb := hC.2.1
  have hl : lv_has ls 2 [(0, .ref (ad 0)), (1, .int 39)] := hl
  refine lv_iload_n hx hb dX9_whyNotThing_0 rfl (lv_at hl 1 rfl) ?_
  refine lv_bipush (v := 38) hx hb dX9_whyNotThing_1 (by decide) ?_
  refine lv_icmp_ne (tgt := 50) hx hb dX9_whyNotThing_3 (by decide) (fun _ => ?_) (fun c_ => absurd c_ (by decide))
  refine lv_iload_n hx hb dX9_whyNotThing_50 rfl (lv_at hl 1 rfl) ?_
  refine lv_bipush (v := 58) hx hb dX9_whyNotThing_51 (by decide) ?_
  refine lv_icmp_gt (tgt := 62) hx hb dX9_whyNotThing_53 (by decide) (fun c_ => absurd c_ (by decide)) (fun _ => ?_)
  refine lv_aload_n hx hb dX9_whyNotThing_56 rfl (lv_at hl 0 rfl) ?_
  refine lv_iload_n hx hb dX9_whyNotThing_57 rfl (lv_at hl 1 rfl) ?_
  refine r_ki hw (r_runV (rest := []) hC hw 0 (c_X9_whyNotPlace_39 l _ hs hW) rk9 (wMl 0 (by decide)) wM0 1 gX9_whyNotThing_X9_whyNotPlace rfl rfl rfl (by decide +kernel) ⟨Nat.le_of_ble_eq_true rfl, Nat.le_of_ble_eq_true rfl⟩ rfl hl.1 rfl (Nat.le_of_ble_eq_true rfl) dX9_whyNotThing_58 ⟨Nat.le_of_ble_eq_true rfl, Nat.le_of_ble_eq_true rfl⟩) (fun r_2 u_3 H locs h_1 hw => ?_)
  subst h_1
  exact r_iret hC hr hlk hw () rfl rfl (Nat.le_of_ble_eq_true rfl) (Nat.le_of_ble_eq_true rfl) dX9_whyNotThing_61

set_option maxHeartbeats 4000000 in
set_option maxRecDepth 100000 in
theorem c_X9_whyNotThing_40 (l : Launch) {D : va_G} {q : Nat → ClassId} {ad : Nat → Nat} {κ : KS} {t : Nat → Int32} (sz : Nat) (hs : okStep 40 (t 0) (t 1) (t 2)) (hW : WFm κ) : Met l yX9_whyNotThing wsX9_whyNotThing (rmz 4 89) (va_Pc [.ref (ad 0), .int 40] (rPre D q (wM q ad κ t) sz)) (va_Qi (fun (r : Int32) (u : Unit) => r = why κ 40 (t 0) (t 1) (t 2)) (fun (u : Unit) tt => rPo D (rA (wM q ad κ t) sz) (wM q ad κ t) tt) (rA (wM q ad κ t) sz)) 0 0 (rA (wM q ad κ t) sz) := by
  have hi0 : vp_in (t 0) 8 := hs.1
  have hi1 : vp_in (t 1) 8 := hs.2.1
  have hi2 : vp_in (t 2) 8 := hs.2.2
  refine r_start (cc := cX9_whyNotThing) (maxL := 2) (ret := (some .int)) (by decide) rfl (Nat.le_of_ble_eq_true rfl) ?_
  intro p e s m below meth c ls hC hr hlk hnm hsz hw hl
  have hx := hC.1
  have hb := hC.2.1
  have hl : lv_has ls 2 [(0, .ref (ad 0)), (1, .int 40)] := hl
  refine lv_iload_n hx hb dX9_whyNotThing_0 rfl (lv_at hl 1 rfl) ?_
  refine lv_bipush (v := 38) hx hb dX9_whyNotThing_1 (by decide) ?_
  refine lv_icmp_ne (tgt := 50) hx hb dX9_whyNotThing_3 (by decide) (fun _ => ?_) (fun c_ => absurd c_ (by decide))
  refine lv_iload_n hx hb dX9_whyNotThing_50 rfl (lv_at hl 1 rfl) ?_
  refine lv_bipush (v := 58) hx hb dX9_whyNotThing_51 (by decide) ?_
  refine lv_icmp_gt (tgt := 62) hx hb dX9_whyNotThing_53 (by decide) (fun c_ => absurd c_ (by decide)) (fun _ => ?_)
  refine lv_aload_n hx hb dX9_whyNotThing_56 rfl (lv_at hl 0 rfl) ?_
  refine lv_iload_n hx hb dX9_whyNotThing_57 rfl (lv_at hl 1 rfl) ?_
  refine r_ki hw (r_runV (rest := []) hC hw 0 (c_X9_whyNotPlace_40 l _ hs hW) rk9 (wMl 0 (by decide)) wM0 1 gX9_whyNotThing_X9_whyNotPlace rfl rfl rfl (by decide +kernel) ⟨Nat.le_of_ble_eq_true rfl, Nat.le_of_ble_eq_true rfl⟩ rfl hl.1 rfl (Nat.le_of_ble_eq_true rfl) dX9_whyNotThing_58 ⟨Nat.le_of_ble_eq_true rfl, Nat.le_of_ble_eq_true rfl⟩) (fun r_2 u_3 H locs h_1 hw => ?_)
  subst h_1
  exact r_iret hC hr hlk hw () rfl rfl (Nat.le_of_ble_eq_true rfl) (Nat.le_of_ble_eq_true rfl) dX9_whyNotThing_61

set_option maxHeartbeats 4000000 in
set_option maxRecDepth 100000 in
theorem c_X9_whyNotThing_41 (l : Launch) {D : va_G} {q : Nat → ClassId} {ad : Nat → Nat} {κ : KS} {t : Nat → Int32} (sz : Nat) (hs : okStep 41 (t 0) (t 1) (t 2)) (hW : WFm κ) : Met l yX9_whyNotThing wsX9_whyNotThing (rmz 4 89) (va_Pc [.ref (ad 0), .int 41] (rPre D q (wM q ad κ t) sz)) (va_Qi (fun (r : Int32) (u : Unit) => r = why κ 41 (t 0) (t 1) (t 2)) (fun (u : Unit) tt => rPo D (rA (wM q ad κ t) sz) (wM q ad κ t) tt) (rA (wM q ad κ t) sz)) 0 0 (rA (wM q ad κ t) sz) := by
  have hi0 : vp_in (t 0) 8 := hs.1
  have hi1 : vp_in (t 1) 8 := hs.2.1
  have hi2 : vp_in (t 2) 8 := hs.2.2
  refine r_start (cc := cX9_whyNotThing) (maxL := 2) (ret := (some .int)) (by decide) rfl (Nat.le_of_ble_eq_true rfl) ?_
  intro p e s m below meth c ls hC hr hlk hnm hsz hw hl
  have hx := hC.1
  have hb := hC.2.1
  have hl : lv_has ls 2 [(0, .ref (ad 0)), (1, .int 41)] := hl
  refine lv_iload_n hx hb dX9_whyNotThing_0 rfl (lv_at hl 1 rfl) ?_
  refine lv_bipush (v := 38) hx hb dX9_whyNotThing_1 (by decide) ?_
  refine lv_icmp_ne (tgt := 50) hx hb dX9_whyNotThing_3 (by decide) (fun _ => ?_) (fun c_ => absurd c_ (by decide))
  refine lv_iload_n hx hb dX9_whyNotThing_50 rfl (lv_at hl 1 rfl) ?_
  refine lv_bipush (v := 58) hx hb dX9_whyNotThing_51 (by decide) ?_
  refine lv_icmp_gt (tgt := 62) hx hb dX9_whyNotThing_53 (by decide) (fun c_ => absurd c_ (by decide)) (fun _ => ?_)
  refine lv_aload_n hx hb dX9_whyNotThing_56 rfl (lv_at hl 0 rfl) ?_
  refine lv_iload_n hx hb dX9_whyNotThing_57 rfl (lv_at hl 1 rfl) ?_
  refine r_ki hw (r_runV (rest := []) hC hw 0 (c_X9_whyNotPlace_41 l _ hs hW) rk9 (wMl 0 (by decide)) wM0 1 gX9_whyNotThing_X9_whyNotPlace rfl rfl rfl (by decide +kernel) ⟨Nat.le_of_ble_eq_true rfl, Nat.le_of_ble_eq_true rfl⟩ rfl hl.1 rfl (Nat.le_of_ble_eq_true rfl) dX9_whyNotThing_58 ⟨Nat.le_of_ble_eq_true rfl, Nat.le_of_ble_eq_true rfl⟩) (fun r_2 u_3 H locs h_1 hw => ?_)
  subst h_1
  exact r_iret hC hr hlk hw () rfl rfl (Nat.le_of_ble_eq_true rfl) (Nat.le_of_ble_eq_true rfl) dX9_whyNotThing_61

set_option maxHeartbeats 4000000 in
set_option maxRecDepth 100000 in
theorem c_X9_whyNotThing_42 (l : Launch) {D : va_G} {q : Nat → ClassId} {ad : Nat → Nat} {κ : KS} {t : Nat → Int32} (sz : Nat) (hs : okStep 42 (t 0) (t 1) (t 2)) (hW : WFm κ) : Met l yX9_whyNotThing wsX9_whyNotThing (rmz 4 89) (va_Pc [.ref (ad 0), .int 42] (rPre D q (wM q ad κ t) sz)) (va_Qi (fun (r : Int32) (u : Unit) => r = why κ 42 (t 0) (t 1) (t 2)) (fun (u : Unit) tt => rPo D (rA (wM q ad κ t) sz) (wM q ad κ t) tt) (rA (wM q ad κ t) sz)) 0 0 (rA (wM q ad κ t) sz) := by
  have hi0 : vp_in (t 0) 8 := hs.1
  have hi1 : vp_in (t 1) 8 := hs.2.1
  have hi2 : vp_in (t 2) 8 := hs.2.2
  refine r_start (cc := cX9_whyNotThing) (maxL := 2) (ret := (some .int)) (by decide) rfl (Nat.le_of_ble_eq_true rfl) ?_
  intro p e s m below meth c ls hC hr hlk hnm hsz hw hl
  have hx := hC.1
  have hb := hC.2.1
  have hl : lv_has ls 2 [(0, .ref (ad 0)), (1, .int 42)] := hl
  refine lv_iload_n hx hb dX9_whyNotThing_0 rfl (lv_at hl 1 rfl) ?_
  refine lv_bipush (v := 38) hx hb dX9_whyNotThing_1 (by decide) ?_
  refine lv_icmp_ne (tgt := 50) hx hb dX9_whyNotThing_3 (by decide) (fun _ => ?_) (fun c_ => absurd c_ (by decide))
  refine lv_iload_n hx hb dX9_whyNotThing_50 rfl (lv_at hl 1 rfl) ?_
  refine lv_bipush (v := 58) hx hb dX9_whyNotThing_51 (by decide) ?_
  refine lv_icmp_gt (tgt := 62) hx hb dX9_whyNotThing_53 (by decide) (fun c_ => absurd c_ (by decide)) (fun _ => ?_)
  refine lv_aload_n hx hb dX9_whyNotThing_56 rfl (lv_at hl 0 rfl) ?_
  refine lv_iload_n hx hb dX9_whyNotThing_57 rfl (lv_at hl 1 rfl) ?_
  refine r_ki hw (r_runV (rest := []) hC hw 0 (c_X9_whyNotPlace_42 l _ hs hW) rk9 (wMl 0 (by decide)) wM0 1 gX9_whyNotThing_X9_whyNotPlace rfl rfl rfl (by decide +kernel) ⟨Nat.le_of_ble_eq_true rfl, Nat.le_of_ble_eq_true rfl⟩ rfl hl.1 rfl (Nat.le_of_ble_eq_true rfl) dX9_whyNotThing_58 ⟨Nat.le_of_ble_eq_true rfl, Nat.le_of_ble_eq_true rfl⟩) (fun r_2 u_3 H locs h_1 hw => ?_)
  subst h_1
  exact r_iret hC hr hlk hw () rfl rfl (Nat.le_of_ble_eq_true rfl) (Nat.le_of_ble_eq_true rfl) dX9_whyNotThing_61

set_option maxHeartbeats 4000000 in
set_option maxRecDepth 100000 in
theorem c_X9_whyNotThing_43 (l : Launch) {D : va_G} {q : Nat → ClassId} {ad : Nat → Nat} {κ : KS} {t : Nat → Int32} (sz : Nat) (hs : okStep 43 (t 0) (t 1) (t 2)) (hW : WFm κ) : Met l yX9_whyNotThing wsX9_whyNotThing (rmz 4 89) (va_Pc [.ref (ad 0), .int 43] (rPre D q (wM q ad κ t) sz)) (va_Qi (fun (r : Int32) (u : Unit) => r = why κ 43 (t 0) (t 1) (t 2)) (fun (u : Unit) tt => rPo D (rA (wM q ad κ t) sz) (wM q ad κ t) tt) (rA (wM q ad κ t) sz)) 0 0 (rA (wM q ad κ t) sz) := by
  have hi0 : vp_in (t 0) 8 := hs.1
  have hi1 : vp_in (t 1) 8 := hs.2.1
  have hi2 : vp_in (t 2) 8 := hs.2.2
  refine r_start (cc := cX9_whyNotThing) (maxL := 2) (ret := (some .int)) (by decide) rfl (Nat.le_of_ble_eq_true rfl) ?_
  intro p e s m below meth c ls hC hr hlk hnm hsz hw hl
  have hx := hC.1
  have hb := hC.2.1
  have hl : lv_has ls 2 [(0, .ref (ad 0)), (1, .int 43)] := hl
  refine lv_iload_n hx hb dX9_whyNotThing_0 rfl (lv_at hl 1 rfl) ?_
  refine lv_bipush (v := 38) hx hb dX9_whyNotThing_1 (by decide) ?_
  refine lv_icmp_ne (tgt := 50) hx hb dX9_whyNotThing_3 (by decide) (fun _ => ?_) (fun c_ => absurd c_ (by decide))
  refine lv_iload_n hx hb dX9_whyNotThing_50 rfl (lv_at hl 1 rfl) ?_
  refine lv_bipush (v := 58) hx hb dX9_whyNotThing_51 (by decide) ?_
  refine lv_icmp_gt (tgt := 62) hx hb dX9_whyNotThing_53 (by decide) (fun c_ => absurd c_ (by decide)) (fun _ => ?_)
  refine lv_aload_n hx hb dX9_whyNotThing_56 rfl (lv_at hl 0 rfl) ?_
  refine lv_iload_n hx hb dX9_whyNotThing_57 rfl (lv_at hl 1 rfl) ?_
  refine r_ki hw (r_runV (rest := []) hC hw 0 (c_X9_whyNotPlace_43 l _ hs hW) rk9 (wMl 0 (by decide)) wM0 1 gX9_whyNotThing_X9_whyNotPlace rfl rfl rfl (by decide +kernel) ⟨Nat.le_of_ble_eq_true rfl, Nat.le_of_ble_eq_true rfl⟩ rfl hl.1 rfl (Nat.le_of_ble_eq_true rfl) dX9_whyNotThing_58 ⟨Nat.le_of_ble_eq_true rfl, Nat.le_of_ble_eq_true rfl⟩) (fun r_2 u_3 H locs h_1 hw => ?_)
  subst h_1
  exact r_iret hC hr hlk hw () rfl rfl (Nat.le_of_ble_eq_true rfl) (Nat.le_of_ble_eq_true rfl) dX9_whyNotThing_61

set_option maxHeartbeats 4000000 in
set_option maxRecDepth 100000 in
theorem c_X9_whyNotThing_44 (l : Launch) {D : va_G} {q : Nat → ClassId} {ad : Nat → Nat} {κ : KS} {t : Nat → Int32} (sz : Nat) (hs : okStep 44 (t 0) (t 1) (t 2)) (hW : WFm κ) : Met l yX9_whyNotThing wsX9_whyNotThing (rmz 4 89) (va_Pc [.ref (ad 0), .int 44] (rPre D q (wM q ad κ t) sz)) (va_Qi (fun (r : Int32) (u : Unit) => r = why κ 44 (t 0) (t 1) (t 2)) (fun (u : Unit) tt => rPo D (rA (wM q ad κ t) sz) (wM q ad κ t) tt) (rA (wM q ad κ t) sz)) 0 0 (rA (wM q ad κ t) sz) := by
  have hi0 : vp_in (t 0) 4 := hs.1
  have hi1 : vp_in (t 1) 8 := hs.2.1
  have hi2 : vp_in (t 2) 8 := hs.2.2
  refine r_start (cc := cX9_whyNotThing) (maxL := 2) (ret := (some .int)) (by decide) rfl (Nat.le_of_ble_eq_true rfl) ?_
  intro p e s m below meth c ls hC hr hlk hnm hsz hw hl
  have hx := hC.1
  have hb := hC.2.1
  have hl : lv_has ls 2 [(0, .ref (ad 0)), (1, .int 44)] := hl
  refine lv_iload_n hx hb dX9_whyNotThing_0 rfl (lv_at hl 1 rfl) ?_
  refine lv_bipush (v := 38) hx hb dX9_whyNotThing_1 (by decide) ?_
  refine lv_icmp_ne (tgt := 50) hx hb dX9_whyNotThing_3 (by decide) (fun _ => ?_) (fun c_ => absurd c_ (by decide))
  refine lv_iload_n hx hb dX9_whyNotThing_50 rfl (lv_at hl 1 rfl) ?_
  refine lv_bipush (v := 58) hx hb dX9_whyNotThing_51 (by decide) ?_
  refine lv_icmp_gt (tgt := 62) hx hb dX9_whyNotThing_53 (by decide) (fun c_ => absurd c_ (by decide)) (fun _ => ?_)
  refine lv_aload_n hx hb dX9_whyNotThing_56 rfl (lv_at hl 0 rfl) ?_
  refine lv_iload_n hx hb dX9_whyNotThing_57 rfl (lv_at hl 1 rfl) ?_
  refine r_ki hw (r_runV (rest := []) hC hw 0 (c_X9_whyNotPlace_44 l _ hs hW) rk9 (wMl 0 (by decide)) wM0 1 gX9_whyNotThing_X9_whyNotPlace rfl rfl rfl (by decide +kernel) ⟨Nat.le_of_ble_eq_true rfl, Nat.le_of_ble_eq_true rfl⟩ rfl hl.1 rfl (Nat.le_of_ble_eq_true rfl) dX9_whyNotThing_58 ⟨Nat.le_of_ble_eq_true rfl, Nat.le_of_ble_eq_true rfl⟩) (fun r_2 u_3 H locs h_1 hw => ?_)
  subst h_1
  exact r_iret hC hr hlk hw () rfl rfl (Nat.le_of_ble_eq_true rfl) (Nat.le_of_ble_eq_true rfl) dX9_whyNotThing_61

set_option maxHeartbeats 4000000 in
set_option maxRecDepth 100000 in
theorem c_X9_whyNotThing_45 (l : Launch) {D : va_G} {q : Nat → ClassId} {ad : Nat → Nat} {κ : KS} {t : Nat → Int32} (sz : Nat) (hs : okStep 45 (t 0) (t 1) (t 2)) (hW : WFm κ) : Met l yX9_whyNotThing wsX9_whyNotThing (rmz 4 89) (va_Pc [.ref (ad 0), .int 45] (rPre D q (wM q ad κ t) sz)) (va_Qi (fun (r : Int32) (u : Unit) => r = why κ 45 (t 0) (t 1) (t 2)) (fun (u : Unit) tt => rPo D (rA (wM q ad κ t) sz) (wM q ad κ t) tt) (rA (wM q ad κ t) sz)) 0 0 (rA (wM q ad κ t) sz) := by
  have hi0 : vp_in (t 0) 4 := hs.1
  have hi1 : vp_in (t 1) 8 := hs.2.1
  have hi2 : vp_in (t 2) 8 := hs.2.2
  refine r_start (cc := cX9_whyNotThing) (maxL := 2) (ret := (some .int)) (by decide) rfl (Nat.le_of_ble_eq_true rfl) ?_
  intro p e s m below meth c ls hC hr hlk hnm hsz hw hl
  have hx := hC.1
  have hb := hC.2.1
  have hl : lv_has ls 2 [(0, .ref (ad 0)), (1, .int 45)] := hl
  refine lv_iload_n hx hb dX9_whyNotThing_0 rfl (lv_at hl 1 rfl) ?_
  refine lv_bipush (v := 38) hx hb dX9_whyNotThing_1 (by decide) ?_
  refine lv_icmp_ne (tgt := 50) hx hb dX9_whyNotThing_3 (by decide) (fun _ => ?_) (fun c_ => absurd c_ (by decide))
  refine lv_iload_n hx hb dX9_whyNotThing_50 rfl (lv_at hl 1 rfl) ?_
  refine lv_bipush (v := 58) hx hb dX9_whyNotThing_51 (by decide) ?_
  refine lv_icmp_gt (tgt := 62) hx hb dX9_whyNotThing_53 (by decide) (fun c_ => absurd c_ (by decide)) (fun _ => ?_)
  refine lv_aload_n hx hb dX9_whyNotThing_56 rfl (lv_at hl 0 rfl) ?_
  refine lv_iload_n hx hb dX9_whyNotThing_57 rfl (lv_at hl 1 rfl) ?_
  refine r_ki hw (r_runV (rest := []) hC hw 0 (c_X9_whyNotPlace_45 l _ hs hW) rk9 (wMl 0 (by decide)) wM0 1 gX9_whyNotThing_X9_whyNotPlace rfl rfl rfl (by decide +kernel) ⟨Nat.le_of_ble_eq_true rfl, Nat.le_of_ble_eq_true rfl⟩ rfl hl.1 rfl (Nat.le_of_ble_eq_true rfl) dX9_whyNotThing_58 ⟨Nat.le_of_ble_eq_true rfl, Nat.le_of_ble_eq_true rfl⟩) (fun r_2 u_3 H locs h_1 hw => ?_)
  subst h_1
  exact r_iret hC hr hlk hw () rfl rfl (Nat.le_of_ble_eq_true rfl) (Nat.le_of_ble_eq_true rfl) dX9_whyNotThing_61

set_option maxHeartbeats 4000000 in
set_option maxRecDepth 100000 in
theorem c_X9_whyNotThing_46 (l : Launch) {D : va_G} {q : Nat → ClassId} {ad : Nat → Nat} {κ : KS} {t : Nat → Int32} (sz : Nat) (hs : okStep 46 (t 0) (t 1) (t 2)) (hW : WFm κ) : Met l yX9_whyNotThing wsX9_whyNotThing (rmz 4 89) (va_Pc [.ref (ad 0), .int 46] (rPre D q (wM q ad κ t) sz)) (va_Qi (fun (r : Int32) (u : Unit) => r = why κ 46 (t 0) (t 1) (t 2)) (fun (u : Unit) tt => rPo D (rA (wM q ad κ t) sz) (wM q ad κ t) tt) (rA (wM q ad κ t) sz)) 0 0 (rA (wM q ad κ t) sz) := by
  have hi0 : vp_in (t 0) 4 := hs.1
  have hi1 : vp_in (t 1) 8 := hs.2.1
  have hi2 : vp_in (t 2) 8 := hs.2.2
  refine r_start (cc := cX9_whyNotThing) (maxL := 2) (ret := (some .int)) (by decide) rfl (Nat.le_of_ble_eq_true rfl) ?_
  intro p e s m below meth c ls hC hr hlk hnm hsz hw hl
  have hx := hC.1
  have hb := hC.2.1
  have hl : lv_has ls 2 [(0, .ref (ad 0)), (1, .int 46)] := hl
  refine lv_iload_n hx hb dX9_whyNotThing_0 rfl (lv_at hl 1 rfl) ?_
  refine lv_bipush (v := 38) hx hb dX9_whyNotThing_1 (by decide) ?_
  refine lv_icmp_ne (tgt := 50) hx hb dX9_whyNotThing_3 (by decide) (fun _ => ?_) (fun c_ => absurd c_ (by decide))
  refine lv_iload_n hx hb dX9_whyNotThing_50 rfl (lv_at hl 1 rfl) ?_
  refine lv_bipush (v := 58) hx hb dX9_whyNotThing_51 (by decide) ?_
  refine lv_icmp_gt (tgt := 62) hx hb dX9_whyNotThing_53 (by decide) (fun c_ => absurd c_ (by decide)) (fun _ => ?_)
  refine lv_aload_n hx hb dX9_whyNotThing_56 rfl (lv_at hl 0 rfl) ?_
  refine lv_iload_n hx hb dX9_whyNotThing_57 rfl (lv_at hl 1 rfl) ?_
  refine r_ki hw (r_runV (rest := []) hC hw 0 (c_X9_whyNotPlace_46 l _ hs hW) rk9 (wMl 0 (by decide)) wM0 1 gX9_whyNotThing_X9_whyNotPlace rfl rfl rfl (by decide +kernel) ⟨Nat.le_of_ble_eq_true rfl, Nat.le_of_ble_eq_true rfl⟩ rfl hl.1 rfl (Nat.le_of_ble_eq_true rfl) dX9_whyNotThing_58 ⟨Nat.le_of_ble_eq_true rfl, Nat.le_of_ble_eq_true rfl⟩) (fun r_2 u_3 H locs h_1 hw => ?_)
  subst h_1
  exact r_iret hC hr hlk hw () rfl rfl (Nat.le_of_ble_eq_true rfl) (Nat.le_of_ble_eq_true rfl) dX9_whyNotThing_61

set_option maxHeartbeats 4000000 in
set_option maxRecDepth 100000 in
theorem c_X9_whyNotThing_47 (l : Launch) {D : va_G} {q : Nat → ClassId} {ad : Nat → Nat} {κ : KS} {t : Nat → Int32} (sz : Nat) (hs : okStep 47 (t 0) (t 1) (t 2)) (hW : WFm κ) : Met l yX9_whyNotThing wsX9_whyNotThing (rmz 4 89) (va_Pc [.ref (ad 0), .int 47] (rPre D q (wM q ad κ t) sz)) (va_Qi (fun (r : Int32) (u : Unit) => r = why κ 47 (t 0) (t 1) (t 2)) (fun (u : Unit) tt => rPo D (rA (wM q ad κ t) sz) (wM q ad κ t) tt) (rA (wM q ad κ t) sz)) 0 0 (rA (wM q ad κ t) sz) := by
  have hi0 : vp_in (t 0) 8 := hs.1
  have hi1 : vp_in (t 1) 8 := hs.2.1
  have hi2 : vp_in (t 2) 8 := hs.2.2
  refine r_start (cc := cX9_whyNotThing) (maxL := 2) (ret := (some .int)) (by decide) rfl (Nat.le_of_ble_eq_true rfl) ?_
  intro p e s m below meth c ls hC hr hlk hnm hsz hw hl
  have hx := hC.1
  have hb := hC.2.1
  have hl : lv_has ls 2 [(0, .ref (ad 0)), (1, .int 47)] := hl
  refine lv_iload_n hx hb dX9_whyNotThing_0 rfl (lv_at hl 1 rfl) ?_
  refine lv_bipush (v := 38) hx hb dX9_whyNotThing_1 (by decide) ?_
  refine lv_icmp_ne (tgt := 50) hx hb dX9_whyNotThing_3 (by decide) (fun _ => ?_) (fun c_ => absurd c_ (by decide))
  refine lv_iload_n hx hb dX9_whyNotThing_50 rfl (lv_at hl 1 rfl) ?_
  refine lv_bipush (v := 58) hx hb dX9_whyNotThing_51 (by decide) ?_
  refine lv_icmp_gt (tgt := 62) hx hb dX9_whyNotThing_53 (by decide) (fun c_ => absurd c_ (by decide)) (fun _ => ?_)
  refine lv_aload_n hx hb dX9_whyNotThing_56 rfl (lv_at hl 0 rfl) ?_
  refine lv_iload_n hx hb dX9_whyNotThing_57 rfl (lv_at hl 1 rfl) ?_
  refine r_ki hw (r_runV (rest := []) hC hw 0 (c_X9_whyNotPlace_47 l _ hs hW) rk9 (wMl 0 (by decide)) wM0 1 gX9_whyNotThing_X9_whyNotPlace rfl rfl rfl (by decide +kernel) ⟨Nat.le_of_ble_eq_true rfl, Nat.le_of_ble_eq_true rfl⟩ rfl hl.1 rfl (Nat.le_of_ble_eq_true rfl) dX9_whyNotThing_58 ⟨Nat.le_of_ble_eq_true rfl, Nat.le_of_ble_eq_true rfl⟩) (fun r_2 u_3 H locs h_1 hw => ?_)
  subst h_1
  exact r_iret hC hr hlk hw () rfl rfl (Nat.le_of_ble_eq_true rfl) (Nat.le_of_ble_eq_true rfl) dX9_whyNotThing_61

set_option maxHeartbeats 4000000 in
set_option maxRecDepth 100000 in
theorem c_X9_whyNotThing_48 (l : Launch) {D : va_G} {q : Nat → ClassId} {ad : Nat → Nat} {κ : KS} {t : Nat → Int32} (sz : Nat) (hs : okStep 48 (t 0) (t 1) (t 2)) (hW : WFm κ) : Met l yX9_whyNotThing wsX9_whyNotThing (rmz 4 89) (va_Pc [.ref (ad 0), .int 48] (rPre D q (wM q ad κ t) sz)) (va_Qi (fun (r : Int32) (u : Unit) => r = why κ 48 (t 0) (t 1) (t 2)) (fun (u : Unit) tt => rPo D (rA (wM q ad κ t) sz) (wM q ad κ t) tt) (rA (wM q ad κ t) sz)) 0 0 (rA (wM q ad κ t) sz) := by
  have hi0 : vp_in (t 0) 8 := hs.1
  have hi1 : vp_in (t 1) 8 := hs.2.1
  have hi2 : vp_in (t 2) 8 := hs.2.2
  refine r_start (cc := cX9_whyNotThing) (maxL := 2) (ret := (some .int)) (by decide) rfl (Nat.le_of_ble_eq_true rfl) ?_
  intro p e s m below meth c ls hC hr hlk hnm hsz hw hl
  have hx := hC.1
  have hb := hC.2.1
  have hl : lv_has ls 2 [(0, .ref (ad 0)), (1, .int 48)] := hl
  refine lv_iload_n hx hb dX9_whyNotThing_0 rfl (lv_at hl 1 rfl) ?_
  refine lv_bipush (v := 38) hx hb dX9_whyNotThing_1 (by decide) ?_
  refine lv_icmp_ne (tgt := 50) hx hb dX9_whyNotThing_3 (by decide) (fun _ => ?_) (fun c_ => absurd c_ (by decide))
  refine lv_iload_n hx hb dX9_whyNotThing_50 rfl (lv_at hl 1 rfl) ?_
  refine lv_bipush (v := 58) hx hb dX9_whyNotThing_51 (by decide) ?_
  refine lv_icmp_gt (tgt := 62) hx hb dX9_whyNotThing_53 (by decide) (fun c_ => absurd c_ (by decide)) (fun _ => ?_)
  refine lv_aload_n hx hb dX9_whyNotThing_56 rfl (lv_at hl 0 rfl) ?_
  refine lv_iload_n hx hb dX9_whyNotThing_57 rfl (lv_at hl 1 rfl) ?_
  refine r_ki hw (r_runV (rest := []) hC hw 0 (c_X9_whyNotPlace_48 l _ hs hW) rk9 (wMl 0 (by decide)) wM0 1 gX9_whyNotThing_X9_whyNotPlace rfl rfl rfl (by decide +kernel) ⟨Nat.le_of_ble_eq_true rfl, Nat.le_of_ble_eq_true rfl⟩ rfl hl.1 rfl (Nat.le_of_ble_eq_true rfl) dX9_whyNotThing_58 ⟨Nat.le_of_ble_eq_true rfl, Nat.le_of_ble_eq_true rfl⟩) (fun r_2 u_3 H locs h_1 hw => ?_)
  subst h_1
  exact r_iret hC hr hlk hw () rfl rfl (Nat.le_of_ble_eq_true rfl) (Nat.le_of_ble_eq_true rfl) dX9_whyNotThing_61

set_option maxHeartbeats 4000000 in
set_option maxRecDepth 100000 in
theorem c_X9_whyNotThing_49 (l : Launch) {D : va_G} {q : Nat → ClassId} {ad : Nat → Nat} {κ : KS} {t : Nat → Int32} (sz : Nat) (hs : okStep 49 (t 0) (t 1) (t 2)) (hW : WFm κ) : Met l yX9_whyNotThing wsX9_whyNotThing (rmz 4 89) (va_Pc [.ref (ad 0), .int 49] (rPre D q (wM q ad κ t) sz)) (va_Qi (fun (r : Int32) (u : Unit) => r = why κ 49 (t 0) (t 1) (t 2)) (fun (u : Unit) tt => rPo D (rA (wM q ad κ t) sz) (wM q ad κ t) tt) (rA (wM q ad κ t) sz)) 0 0 (rA (wM q ad κ t) sz) := by
  have hi0 : vp_in (t 0) 8 := hs.1
  have hi1 : vp_in (t 1) 8 := hs.2.1
  have hi2 : vp_in (t 2) 8 := hs.2.2
  refine r_start (cc := cX9_whyNotThing) (maxL := 2) (ret := (some .int)) (by decide) rfl (Nat.le_of_ble_eq_true rfl) ?_
  intro p e s m below meth c ls hC hr hlk hnm hsz hw hl
  have hx := hC.1
  have hb := hC.2.1
  have hl : lv_has ls 2 [(0, .ref (ad 0)), (1, .int 49)] := hl
  refine lv_iload_n hx hb dX9_whyNotThing_0 rfl (lv_at hl 1 rfl) ?_
  refine lv_bipush (v := 38) hx hb dX9_whyNotThing_1 (by decide) ?_
  refine lv_icmp_ne (tgt := 50) hx hb dX9_whyNotThing_3 (by decide) (fun _ => ?_) (fun c_ => absurd c_ (by decide))
  refine lv_iload_n hx hb dX9_whyNotThing_50 rfl (lv_at hl 1 rfl) ?_
  refine lv_bipush (v := 58) hx hb dX9_whyNotThing_51 (by decide) ?_
  refine lv_icmp_gt (tgt := 62) hx hb dX9_whyNotThing_53 (by decide) (fun c_ => absurd c_ (by decide)) (fun _ => ?_)
  refine lv_aload_n hx hb dX9_whyNotThing_56 rfl (lv_at hl 0 rfl) ?_
  refine lv_iload_n hx hb dX9_whyNotThing_57 rfl (lv_at hl 1 rfl) ?_
  refine r_ki hw (r_runV (rest := []) hC hw 0 (c_X9_whyNotPlace_49 l _ hs hW) rk9 (wMl 0 (by decide)) wM0 1 gX9_whyNotThing_X9_whyNotPlace rfl rfl rfl (by decide +kernel) ⟨Nat.le_of_ble_eq_true rfl, Nat.le_of_ble_eq_true rfl⟩ rfl hl.1 rfl (Nat.le_of_ble_eq_true rfl) dX9_whyNotThing_58 ⟨Nat.le_of_ble_eq_true rfl, Nat.le_of_ble_eq_true rfl⟩) (fun r_2 u_3 H locs h_1 hw => ?_)
  subst h_1
  exact r_iret hC hr hlk hw () rfl rfl (Nat.le_of_ble_eq_true rfl) (Nat.le_of_ble_eq_true rfl) dX9_whyNotThing_61

set_option maxHeartbeats 4000000 in
set_option maxRecDepth 100000 in
theorem c_X9_whyNotThing_50 (l : Launch) {D : va_G} {q : Nat → ClassId} {ad : Nat → Nat} {κ : KS} {t : Nat → Int32} (sz : Nat) (hs : okStep 50 (t 0) (t 1) (t 2)) (hW : WFm κ) : Met l yX9_whyNotThing wsX9_whyNotThing (rmz 4 89) (va_Pc [.ref (ad 0), .int 50] (rPre D q (wM q ad κ t) sz)) (va_Qi (fun (r : Int32) (u : Unit) => r = why κ 50 (t 0) (t 1) (t 2)) (fun (u : Unit) tt => rPo D (rA (wM q ad κ t) sz) (wM q ad κ t) tt) (rA (wM q ad κ t) sz)) 0 0 (rA (wM q ad κ t) sz) := by
  have hi0 : vp_in (t 0) 8 := hs.1
  have hi1 : vp_in (t 1) 8 := hs.2.1
  have hi2 : vp_in (t 2) 8 := hs.2.2
  refine r_start (cc := cX9_whyNotThing) (maxL := 2) (ret := (some .int)) (by decide) rfl (Nat.le_of_ble_eq_true rfl) ?_
  intro p e s m below meth c ls hC hr hlk hnm hsz hw hl
  have hx := hC.1
  have hb := hC.2.1
  have hl : lv_has ls 2 [(0, .ref (ad 0)), (1, .int 50)] := hl
  refine lv_iload_n hx hb dX9_whyNotThing_0 rfl (lv_at hl 1 rfl) ?_
  refine lv_bipush (v := 38) hx hb dX9_whyNotThing_1 (by decide) ?_
  refine lv_icmp_ne (tgt := 50) hx hb dX9_whyNotThing_3 (by decide) (fun _ => ?_) (fun c_ => absurd c_ (by decide))
  refine lv_iload_n hx hb dX9_whyNotThing_50 rfl (lv_at hl 1 rfl) ?_
  refine lv_bipush (v := 58) hx hb dX9_whyNotThing_51 (by decide) ?_
  refine lv_icmp_gt (tgt := 62) hx hb dX9_whyNotThing_53 (by decide) (fun c_ => absurd c_ (by decide)) (fun _ => ?_)
  refine lv_aload_n hx hb dX9_whyNotThing_56 rfl (lv_at hl 0 rfl) ?_
  refine lv_iload_n hx hb dX9_whyNotThing_57 rfl (lv_at hl 1 rfl) ?_
  refine r_ki hw (r_runV (rest := []) hC hw 0 (c_X9_whyNotPlace_50 l _ hs hW) rk9 (wMl 0 (by decide)) wM0 1 gX9_whyNotThing_X9_whyNotPlace rfl rfl rfl (by decide +kernel) ⟨Nat.le_of_ble_eq_true rfl, Nat.le_of_ble_eq_true rfl⟩ rfl hl.1 rfl (Nat.le_of_ble_eq_true rfl) dX9_whyNotThing_58 ⟨Nat.le_of_ble_eq_true rfl, Nat.le_of_ble_eq_true rfl⟩) (fun r_2 u_3 H locs h_1 hw => ?_)
  subst h_1
  exact r_iret hC hr hlk hw () rfl rfl (Nat.le_of_ble_eq_true rfl) (Nat.le_of_ble_eq_true rfl) dX9_whyNotThing_61

set_option maxHeartbeats 4000000 in
set_option maxRecDepth 100000 in
theorem c_X9_whyNotThing_51 (l : Launch) {D : va_G} {q : Nat → ClassId} {ad : Nat → Nat} {κ : KS} {t : Nat → Int32} (sz : Nat) (hs : okStep 51 (t 0) (t 1) (t 2)) (hW : WFm κ) : Met l yX9_whyNotThing wsX9_whyNotThing (rmz 4 89) (va_Pc [.ref (ad 0), .int 51] (rPre D q (wM q ad κ t) sz)) (va_Qi (fun (r : Int32) (u : Unit) => r = why κ 51 (t 0) (t 1) (t 2)) (fun (u : Unit) tt => rPo D (rA (wM q ad κ t) sz) (wM q ad κ t) tt) (rA (wM q ad κ t) sz)) 0 0 (rA (wM q ad κ t) sz) := by
  have hi0 : vp_in (t 0) 8 := hs.1
  have hi1 : vp_in (t 1) 8 := hs.2.1
  have hi2 : vp_in (t 2) 8 := hs.2.2
  refine r_start (cc := cX9_whyNotThing) (maxL := 2) (ret := (some .int)) (by decide) rfl (Nat.le_of_ble_eq_true rfl) ?_
  intro p e s m below meth c ls hC hr hlk hnm hsz hw hl
  have hx := hC.1
  have hb := hC.2.1
  have hl : lv_has ls 2 [(0, .ref (ad 0)), (1, .int 51)] := hl
  refine lv_iload_n hx hb dX9_whyNotThing_0 rfl (lv_at hl 1 rfl) ?_
  refine lv_bipush (v := 38) hx hb dX9_whyNotThing_1 (by decide) ?_
  refine lv_icmp_ne (tgt := 50) hx hb dX9_whyNotThing_3 (by decide) (fun _ => ?_) (fun c_ => absurd c_ (by decide))
  refine lv_iload_n hx hb dX9_whyNotThing_50 rfl (lv_at hl 1 rfl) ?_
  refine lv_bipush (v := 58) hx hb dX9_whyNotThing_51 (by decide) ?_
  refine lv_icmp_gt (tgt := 62) hx hb dX9_whyNotThing_53 (by decide) (fun c_ => absurd c_ (by decide)) (fun _ => ?_)
  refine lv_aload_n hx hb dX9_whyNotThing_56 rfl (lv_at hl 0 rfl) ?_
  refine lv_iload_n hx hb dX9_whyNotThing_57 rfl (lv_at hl 1 rfl) ?_
  refine r_ki hw (r_runV (rest := []) hC hw 0 (c_X9_whyNotPlace_51 l _ hs hW) rk9 (wMl 0 (by decide)) wM0 1 gX9_whyNotThing_X9_whyNotPlace rfl rfl rfl (by decide +kernel) ⟨Nat.le_of_ble_eq_true rfl, Nat.le_of_ble_eq_true rfl⟩ rfl hl.1 rfl (Nat.le_of_ble_eq_true rfl) dX9_whyNotThing_58 ⟨Nat.le_of_ble_eq_true rfl, Nat.le_of_ble_eq_true rfl⟩) (fun r_2 u_3 H locs h_1 hw => ?_)
  subst h_1
  exact r_iret hC hr hlk hw () rfl rfl (Nat.le_of_ble_eq_true rfl) (Nat.le_of_ble_eq_true rfl) dX9_whyNotThing_61

set_option maxHeartbeats 4000000 in
set_option maxRecDepth 100000 in
theorem c_X9_whyNotThing_52 (l : Launch) {D : va_G} {q : Nat → ClassId} {ad : Nat → Nat} {κ : KS} {t : Nat → Int32} (sz : Nat) (hs : okStep 52 (t 0) (t 1) (t 2)) (hW : WFm κ) : Met l yX9_whyNotThing wsX9_whyNotThing (rmz 4 89) (va_Pc [.ref (ad 0), .int 52] (rPre D q (wM q ad κ t) sz)) (va_Qi (fun (r : Int32) (u : Unit) => r = why κ 52 (t 0) (t 1) (t 2)) (fun (u : Unit) tt => rPo D (rA (wM q ad κ t) sz) (wM q ad κ t) tt) (rA (wM q ad κ t) sz)) 0 0 (rA (wM q ad κ t) sz) := by
  have hi0 : vp_in (t 0) 8 := hs.1
  have hi1 : vp_in (t 1) 8 := hs.2.1
  have hi2 : vp_in (t 2) 8 := hs.2.2
  refine r_start (cc := cX9_whyNotThing) (maxL := 2) (ret := (some .int)) (by decide) rfl (Nat.le_of_ble_eq_true rfl) ?_
  intro p e s m below meth c ls hC hr hlk hnm hsz hw hl
  have hx := hC.1
  have hb := hC.2.1
  have hl : lv_has ls 2 [(0, .ref (ad 0)), (1, .int 52)] := hl
  refine lv_iload_n hx hb dX9_whyNotThing_0 rfl (lv_at hl 1 rfl) ?_
  refine lv_bipush (v := 38) hx hb dX9_whyNotThing_1 (by decide) ?_
  refine lv_icmp_ne (tgt := 50) hx hb dX9_whyNotThing_3 (by decide) (fun _ => ?_) (fun c_ => absurd c_ (by decide))
  refine lv_iload_n hx hb dX9_whyNotThing_50 rfl (lv_at hl 1 rfl) ?_
  refine lv_bipush (v := 58) hx hb dX9_whyNotThing_51 (by decide) ?_
  refine lv_icmp_gt (tgt := 62) hx hb dX9_whyNotThing_53 (by decide) (fun c_ => absurd c_ (by decide)) (fun _ => ?_)
  refine lv_aload_n hx hb dX9_whyNotThing_56 rfl (lv_at hl 0 rfl) ?_
  refine lv_iload_n hx hb dX9_whyNotThing_57 rfl (lv_at hl 1 rfl) ?_
  refine r_ki hw (r_runV (rest := []) hC hw 0 (c_X9_whyNotPlace_52 l _ hs hW) rk9 (wMl 0 (by decide)) wM0 1 gX9_whyNotThing_X9_whyNotPlace rfl rfl rfl (by decide +kernel) ⟨Nat.le_of_ble_eq_true rfl, Nat.le_of_ble_eq_true rfl⟩ rfl hl.1 rfl (Nat.le_of_ble_eq_true rfl) dX9_whyNotThing_58 ⟨Nat.le_of_ble_eq_true rfl, Nat.le_of_ble_eq_true rfl⟩) (fun r_2 u_3 H locs h_1 hw => ?_)
  subst h_1
  exact r_iret hC hr hlk hw () rfl rfl (Nat.le_of_ble_eq_true rfl) (Nat.le_of_ble_eq_true rfl) dX9_whyNotThing_61

set_option maxHeartbeats 4000000 in
set_option maxRecDepth 100000 in
theorem c_X9_whyNotThing_53 (l : Launch) {D : va_G} {q : Nat → ClassId} {ad : Nat → Nat} {κ : KS} {t : Nat → Int32} (sz : Nat) (hs : okStep 53 (t 0) (t 1) (t 2)) (hW : WFm κ) : Met l yX9_whyNotThing wsX9_whyNotThing (rmz 4 89) (va_Pc [.ref (ad 0), .int 53] (rPre D q (wM q ad κ t) sz)) (va_Qi (fun (r : Int32) (u : Unit) => r = why κ 53 (t 0) (t 1) (t 2)) (fun (u : Unit) tt => rPo D (rA (wM q ad κ t) sz) (wM q ad κ t) tt) (rA (wM q ad κ t) sz)) 0 0 (rA (wM q ad κ t) sz) := by
  have hi0 : vp_in (t 0) 8 := hs.1
  have hi1 : vp_in (t 1) 8 := hs.2.1
  have hi2 : vp_in (t 2) 8 := hs.2.2
  refine r_start (cc := cX9_whyNotThing) (maxL := 2) (ret := (some .int)) (by decide) rfl (Nat.le_of_ble_eq_true rfl) ?_
  intro p e s m below meth c ls hC hr hlk hnm hsz hw hl
  have hx := hC.1
  have hb := hC.2.1
  have hl : lv_has ls 2 [(0, .ref (ad 0)), (1, .int 53)] := hl
  refine lv_iload_n hx hb dX9_whyNotThing_0 rfl (lv_at hl 1 rfl) ?_
  refine lv_bipush (v := 38) hx hb dX9_whyNotThing_1 (by decide) ?_
  refine lv_icmp_ne (tgt := 50) hx hb dX9_whyNotThing_3 (by decide) (fun _ => ?_) (fun c_ => absurd c_ (by decide))
  refine lv_iload_n hx hb dX9_whyNotThing_50 rfl (lv_at hl 1 rfl) ?_
  refine lv_bipush (v := 58) hx hb dX9_whyNotThing_51 (by decide) ?_
  refine lv_icmp_gt (tgt := 62) hx hb dX9_whyNotThing_53 (by decide) (fun c_ => absurd c_ (by decide)) (fun _ => ?_)
  refine lv_aload_n hx hb dX9_whyNotThing_56 rfl (lv_at hl 0 rfl) ?_
  refine lv_iload_n hx hb dX9_whyNotThing_57 rfl (lv_at hl 1 rfl) ?_
  refine r_ki hw (r_runV (rest := []) hC hw 0 (c_X9_whyNotPlace_53 l _ hs hW) rk9 (wMl 0 (by decide)) wM0 1 gX9_whyNotThing_X9_whyNotPlace rfl rfl rfl (by decide +kernel) ⟨Nat.le_of_ble_eq_true rfl, Nat.le_of_ble_eq_true rfl⟩ rfl hl.1 rfl (Nat.le_of_ble_eq_true rfl) dX9_whyNotThing_58 ⟨Nat.le_of_ble_eq_true rfl, Nat.le_of_ble_eq_true rfl⟩) (fun r_2 u_3 H locs h_1 hw => ?_)
  subst h_1
  exact r_iret hC hr hlk hw () rfl rfl (Nat.le_of_ble_eq_true rfl) (Nat.le_of_ble_eq_true rfl) dX9_whyNotThing_61

set_option maxHeartbeats 4000000 in
set_option maxRecDepth 100000 in
theorem c_X9_whyNotThing_54 (l : Launch) {D : va_G} {q : Nat → ClassId} {ad : Nat → Nat} {κ : KS} {t : Nat → Int32} (sz : Nat) (hs : okStep 54 (t 0) (t 1) (t 2)) (hW : WFm κ) : Met l yX9_whyNotThing wsX9_whyNotThing (rmz 4 89) (va_Pc [.ref (ad 0), .int 54] (rPre D q (wM q ad κ t) sz)) (va_Qi (fun (r : Int32) (u : Unit) => r = why κ 54 (t 0) (t 1) (t 2)) (fun (u : Unit) tt => rPo D (rA (wM q ad κ t) sz) (wM q ad κ t) tt) (rA (wM q ad κ t) sz)) 0 0 (rA (wM q ad κ t) sz) := by
  have hi0 : vp_in (t 0) 4 := hs.1
  have hi1 : vp_in (t 1) 8 := hs.2.1
  have hi2 : vp_in (t 2) 8 := hs.2.2
  refine r_start (cc := cX9_whyNotThing) (maxL := 2) (ret := (some .int)) (by decide) rfl (Nat.le_of_ble_eq_true rfl) ?_
  intro p e s m below meth c ls hC hr hlk hnm hsz hw hl
  have hx := hC.1
  have hb := hC.2.1
  have hl : lv_has ls 2 [(0, .ref (ad 0)), (1, .int 54)] := hl
  refine lv_iload_n hx hb dX9_whyNotThing_0 rfl (lv_at hl 1 rfl) ?_
  refine lv_bipush (v := 38) hx hb dX9_whyNotThing_1 (by decide) ?_
  refine lv_icmp_ne (tgt := 50) hx hb dX9_whyNotThing_3 (by decide) (fun _ => ?_) (fun c_ => absurd c_ (by decide))
  refine lv_iload_n hx hb dX9_whyNotThing_50 rfl (lv_at hl 1 rfl) ?_
  refine lv_bipush (v := 58) hx hb dX9_whyNotThing_51 (by decide) ?_
  refine lv_icmp_gt (tgt := 62) hx hb dX9_whyNotThing_53 (by decide) (fun c_ => absurd c_ (by decide)) (fun _ => ?_)
  refine lv_aload_n hx hb dX9_whyNotThing_56 rfl (lv_at hl 0 rfl) ?_
  refine lv_iload_n hx hb dX9_whyNotThing_57 rfl (lv_at hl 1 rfl) ?_
  refine r_ki hw (r_runV (rest := []) hC hw 0 (c_X9_whyNotPlace_54 l _ hs hW) rk9 (wMl 0 (by decide)) wM0 1 gX9_whyNotThing_X9_whyNotPlace rfl rfl rfl (by decide +kernel) ⟨Nat.le_of_ble_eq_true rfl, Nat.le_of_ble_eq_true rfl⟩ rfl hl.1 rfl (Nat.le_of_ble_eq_true rfl) dX9_whyNotThing_58 ⟨Nat.le_of_ble_eq_true rfl, Nat.le_of_ble_eq_true rfl⟩) (fun r_2 u_3 H locs h_1 hw => ?_)
  subst h_1
  exact r_iret hC hr hlk hw () rfl rfl (Nat.le_of_ble_eq_true rfl) (Nat.le_of_ble_eq_true rfl) dX9_whyNotThing_61

set_option maxHeartbeats 4000000 in
set_option maxRecDepth 100000 in
theorem c_X9_whyNotThing_55 (l : Launch) {D : va_G} {q : Nat → ClassId} {ad : Nat → Nat} {κ : KS} {t : Nat → Int32} (sz : Nat) (hs : okStep 55 (t 0) (t 1) (t 2)) (hW : WFm κ) : Met l yX9_whyNotThing wsX9_whyNotThing (rmz 4 89) (va_Pc [.ref (ad 0), .int 55] (rPre D q (wM q ad κ t) sz)) (va_Qi (fun (r : Int32) (u : Unit) => r = why κ 55 (t 0) (t 1) (t 2)) (fun (u : Unit) tt => rPo D (rA (wM q ad κ t) sz) (wM q ad κ t) tt) (rA (wM q ad κ t) sz)) 0 0 (rA (wM q ad κ t) sz) := by
  have hi0 : vp_in (t 0) 4 := hs.1
  have hi1 : vp_in (t 1) 8 := hs.2.1
  have hi2 : vp_in (t 2) 8 := hs.2.2
  refine r_start (cc := cX9_whyNotThing) (maxL := 2) (ret := (some .int)) (by decide) rfl (Nat.le_of_ble_eq_true rfl) ?_
  intro p e s m below meth c ls hC hr hlk hnm hsz hw hl
  have hx := hC.1
  have hb := hC.2.1
  have hl : lv_has ls 2 [(0, .ref (ad 0)), (1, .int 55)] := hl
  refine lv_iload_n hx hb dX9_whyNotThing_0 rfl (lv_at hl 1 rfl) ?_
  refine lv_bipush (v := 38) hx hb dX9_whyNotThing_1 (by decide) ?_
  refine lv_icmp_ne (tgt := 50) hx hb dX9_whyNotThing_3 (by decide) (fun _ => ?_) (fun c_ => absurd c_ (by decide))
  refine lv_iload_n hx hb dX9_whyNotThing_50 rfl (lv_at hl 1 rfl) ?_
  refine lv_bipush (v := 58) hx hb dX9_whyNotThing_51 (by decide) ?_
  refine lv_icmp_gt (tgt := 62) hx hb dX9_whyNotThing_53 (by decide) (fun c_ => absurd c_ (by decide)) (fun _ => ?_)
  refine lv_aload_n hx hb dX9_whyNotThing_56 rfl (lv_at hl 0 rfl) ?_
  refine lv_iload_n hx hb dX9_whyNotThing_57 rfl (lv_at hl 1 rfl) ?_
  refine r_ki hw (r_runV (rest := []) hC hw 0 (c_X9_whyNotPlace_55 l _ hs hW) rk9 (wMl 0 (by decide)) wM0 1 gX9_whyNotThing_X9_whyNotPlace rfl rfl rfl (by decide +kernel) ⟨Nat.le_of_ble_eq_true rfl, Nat.le_of_ble_eq_true rfl⟩ rfl hl.1 rfl (Nat.le_of_ble_eq_true rfl) dX9_whyNotThing_58 ⟨Nat.le_of_ble_eq_true rfl, Nat.le_of_ble_eq_true rfl⟩) (fun r_2 u_3 H locs h_1 hw => ?_)
  subst h_1
  exact r_iret hC hr hlk hw () rfl rfl (Nat.le_of_ble_eq_true rfl) (Nat.le_of_ble_eq_true rfl) dX9_whyNotThing_61

set_option maxHeartbeats 4000000 in
set_option maxRecDepth 100000 in
theorem c_X9_whyNotThing_56 (l : Launch) {D : va_G} {q : Nat → ClassId} {ad : Nat → Nat} {κ : KS} {t : Nat → Int32} (sz : Nat) (hs : okStep 56 (t 0) (t 1) (t 2)) (hW : WFm κ) : Met l yX9_whyNotThing wsX9_whyNotThing (rmz 4 89) (va_Pc [.ref (ad 0), .int 56] (rPre D q (wM q ad κ t) sz)) (va_Qi (fun (r : Int32) (u : Unit) => r = why κ 56 (t 0) (t 1) (t 2)) (fun (u : Unit) tt => rPo D (rA (wM q ad κ t) sz) (wM q ad κ t) tt) (rA (wM q ad κ t) sz)) 0 0 (rA (wM q ad κ t) sz) := by
  have hi0 : vp_in (t 0) 4 := hs.1
  have hi1 : vp_in (t 1) 8 := hs.2.1
  have hi2 : vp_in (t 2) 8 := hs.2.2
  refine r_start (cc := cX9_whyNotThing) (maxL := 2) (ret := (some .int)) (by decide) rfl (Nat.le_of_ble_eq_true rfl) ?_
  intro p e s m below meth c ls hC hr hlk hnm hsz hw hl
  have hx := hC.1
  have hb := hC.2.1
  have hl : lv_has ls 2 [(0, .ref (ad 0)), (1, .int 56)] := hl
  refine lv_iload_n hx hb dX9_whyNotThing_0 rfl (lv_at hl 1 rfl) ?_
  refine lv_bipush (v := 38) hx hb dX9_whyNotThing_1 (by decide) ?_
  refine lv_icmp_ne (tgt := 50) hx hb dX9_whyNotThing_3 (by decide) (fun _ => ?_) (fun c_ => absurd c_ (by decide))
  refine lv_iload_n hx hb dX9_whyNotThing_50 rfl (lv_at hl 1 rfl) ?_
  refine lv_bipush (v := 58) hx hb dX9_whyNotThing_51 (by decide) ?_
  refine lv_icmp_gt (tgt := 62) hx hb dX9_whyNotThing_53 (by decide) (fun c_ => absurd c_ (by decide)) (fun _ => ?_)
  refine lv_aload_n hx hb dX9_whyNotThing_56 rfl (lv_at hl 0 rfl) ?_
  refine lv_iload_n hx hb dX9_whyNotThing_57 rfl (lv_at hl 1 rfl) ?_
  refine r_ki hw (r_runV (rest := []) hC hw 0 (c_X9_whyNotPlace_56 l _ hs hW) rk9 (wMl 0 (by decide)) wM0 1 gX9_whyNotThing_X9_whyNotPlace rfl rfl rfl (by decide +kernel) ⟨Nat.le_of_ble_eq_true rfl, Nat.le_of_ble_eq_true rfl⟩ rfl hl.1 rfl (Nat.le_of_ble_eq_true rfl) dX9_whyNotThing_58 ⟨Nat.le_of_ble_eq_true rfl, Nat.le_of_ble_eq_true rfl⟩) (fun r_2 u_3 H locs h_1 hw => ?_)
  subst h_1
  exact r_iret hC hr hlk hw () rfl rfl (Nat.le_of_ble_eq_true rfl) (Nat.le_of_ble_eq_true rfl) dX9_whyNotThing_61

set_option maxHeartbeats 4000000 in
set_option maxRecDepth 100000 in
theorem c_X9_whyNotThing_57 (l : Launch) {D : va_G} {q : Nat → ClassId} {ad : Nat → Nat} {κ : KS} {t : Nat → Int32} (sz : Nat) (hs : okStep 57 (t 0) (t 1) (t 2)) (hW : WFm κ) : Met l yX9_whyNotThing wsX9_whyNotThing (rmz 4 89) (va_Pc [.ref (ad 0), .int 57] (rPre D q (wM q ad κ t) sz)) (va_Qi (fun (r : Int32) (u : Unit) => r = why κ 57 (t 0) (t 1) (t 2)) (fun (u : Unit) tt => rPo D (rA (wM q ad κ t) sz) (wM q ad κ t) tt) (rA (wM q ad κ t) sz)) 0 0 (rA (wM q ad κ t) sz) := by
  have hi0 : vp_in (t 0) 8 := hs.1
  have hi1 : vp_in (t 1) 8 := hs.2.1
  have hi2 : vp_in (t 2) 8 := hs.2.2
  refine r_start (cc := cX9_whyNotThing) (maxL := 2) (ret := (some .int)) (by decide) rfl (Nat.le_of_ble_eq_true rfl) ?_
  intro p e s m below meth c ls hC hr hlk hnm hsz hw hl
  have hx := hC.1
  have hb := hC.2.1
  have hl : lv_has ls 2 [(0, .ref (ad 0)), (1, .int 57)] := hl
  refine lv_iload_n hx hb dX9_whyNotThing_0 rfl (lv_at hl 1 rfl) ?_
  refine lv_bipush (v := 38) hx hb dX9_whyNotThing_1 (by decide) ?_
  refine lv_icmp_ne (tgt := 50) hx hb dX9_whyNotThing_3 (by decide) (fun _ => ?_) (fun c_ => absurd c_ (by decide))
  refine lv_iload_n hx hb dX9_whyNotThing_50 rfl (lv_at hl 1 rfl) ?_
  refine lv_bipush (v := 58) hx hb dX9_whyNotThing_51 (by decide) ?_
  refine lv_icmp_gt (tgt := 62) hx hb dX9_whyNotThing_53 (by decide) (fun c_ => absurd c_ (by decide)) (fun _ => ?_)
  refine lv_aload_n hx hb dX9_whyNotThing_56 rfl (lv_at hl 0 rfl) ?_
  refine lv_iload_n hx hb dX9_whyNotThing_57 rfl (lv_at hl 1 rfl) ?_
  refine r_ki hw (r_runV (rest := []) hC hw 0 (c_X9_whyNotPlace_57 l _ hs hW) rk9 (wMl 0 (by decide)) wM0 1 gX9_whyNotThing_X9_whyNotPlace rfl rfl rfl (by decide +kernel) ⟨Nat.le_of_ble_eq_true rfl, Nat.le_of_ble_eq_true rfl⟩ rfl hl.1 rfl (Nat.le_of_ble_eq_true rfl) dX9_whyNotThing_58 ⟨Nat.le_of_ble_eq_true rfl, Nat.le_of_ble_eq_true rfl⟩) (fun r_2 u_3 H locs h_1 hw => ?_)
  subst h_1
  exact r_iret hC hr hlk hw () rfl rfl (Nat.le_of_ble_eq_true rfl) (Nat.le_of_ble_eq_true rfl) dX9_whyNotThing_61

set_option maxHeartbeats 4000000 in
set_option maxRecDepth 100000 in
theorem c_X9_whyNotThing_58 (l : Launch) {D : va_G} {q : Nat → ClassId} {ad : Nat → Nat} {κ : KS} {t : Nat → Int32} (sz : Nat) (hs : okStep 58 (t 0) (t 1) (t 2)) (hW : WFm κ) : Met l yX9_whyNotThing wsX9_whyNotThing (rmz 4 89) (va_Pc [.ref (ad 0), .int 58] (rPre D q (wM q ad κ t) sz)) (va_Qi (fun (r : Int32) (u : Unit) => r = why κ 58 (t 0) (t 1) (t 2)) (fun (u : Unit) tt => rPo D (rA (wM q ad κ t) sz) (wM q ad κ t) tt) (rA (wM q ad κ t) sz)) 0 0 (rA (wM q ad κ t) sz) := by
  have hi0 : vp_in (t 0) 8 := hs.1
  have hi1 : vp_in (t 1) 8 := hs.2.1
  have hi2 : vp_in (t 2) 8 := hs.2.2
  refine r_start (cc := cX9_whyNotThing) (maxL := 2) (ret := (some .int)) (by decide) rfl (Nat.le_of_ble_eq_true rfl) ?_
  intro p e s m below meth c ls hC hr hlk hnm hsz hw hl
  have hx := hC.1
  have hb := hC.2.1
  have hl : lv_has ls 2 [(0, .ref (ad 0)), (1, .int 58)] := hl
  refine lv_iload_n hx hb dX9_whyNotThing_0 rfl (lv_at hl 1 rfl) ?_
  refine lv_bipush (v := 38) hx hb dX9_whyNotThing_1 (by decide) ?_
  refine lv_icmp_ne (tgt := 50) hx hb dX9_whyNotThing_3 (by decide) (fun _ => ?_) (fun c_ => absurd c_ (by decide))
  refine lv_iload_n hx hb dX9_whyNotThing_50 rfl (lv_at hl 1 rfl) ?_
  refine lv_bipush (v := 58) hx hb dX9_whyNotThing_51 (by decide) ?_
  refine lv_icmp_gt (tgt := 62) hx hb dX9_whyNotThing_53 (by decide) (fun c_ => absurd c_ (by decide)) (fun _ => ?_)
  refine lv_aload_n hx hb dX9_whyNotThing_56 rfl (lv_at hl 0 rfl) ?_
  refine lv_iload_n hx hb dX9_whyNotThing_57 rfl (lv_at hl 1 rfl) ?_
  refine r_ki hw (r_runV (rest := []) hC hw 0 (c_X9_whyNotPlace_58 l _ hs hW) rk9 (wMl 0 (by decide)) wM0 1 gX9_whyNotThing_X9_whyNotPlace rfl rfl rfl (by decide +kernel) ⟨Nat.le_of_ble_eq_true rfl, Nat.le_of_ble_eq_true rfl⟩ rfl hl.1 rfl (Nat.le_of_ble_eq_true rfl) dX9_whyNotThing_58 ⟨Nat.le_of_ble_eq_true rfl, Nat.le_of_ble_eq_true rfl⟩) (fun r_2 u_3 H locs h_1 hw => ?_)
  subst h_1
  exact r_iret hC hr hlk hw () rfl rfl (Nat.le_of_ble_eq_true rfl) (Nat.le_of_ble_eq_true rfl) dX9_whyNotThing_61

set_option maxHeartbeats 4000000 in
set_option maxRecDepth 100000 in
theorem c_X9_whyNotThing_59 (l : Launch) {D : va_G} {q : Nat → ClassId} {ad : Nat → Nat} {κ : KS} {t : Nat → Int32} (sz : Nat) (hs : okStep 59 (t 0) (t 1) (t 2)) (hW : WFm κ) : Met l yX9_whyNotThing wsX9_whyNotThing (rmz 4 89) (va_Pc [.ref (ad 0), .int 59] (rPre D q (wM q ad κ t) sz)) (va_Qi (fun (r : Int32) (u : Unit) => r = why κ 59 (t 0) (t 1) (t 2)) (fun (u : Unit) tt => rPo D (rA (wM q ad κ t) sz) (wM q ad κ t) tt) (rA (wM q ad κ t) sz)) 0 0 (rA (wM q ad κ t) sz) := by
  have hi0 : vp_in (t 0) 8 := hs.1
  have hi1 : vp_in (t 1) 8 := hs.2.1
  refine r_start (cc := cX9_whyNotThing) (maxL := 2) (ret := (some .int)) (by decide) rfl (Nat.le_of_ble_eq_true rfl) ?_
  intro p e s m below meth c ls hC hr hlk hnm hsz hw hl
  have hx := hC.1
  have hb := hC.2.1
  have hl : lv_has ls 2 [(0, .ref (ad 0)), (1, .int 59)] := hl
  refine lv_iload_n hx hb dX9_whyNotThing_0 rfl (lv_at hl 1 rfl) ?_
  refine lv_bipush (v := 38) hx hb dX9_whyNotThing_1 (by decide) ?_
  refine lv_icmp_ne (tgt := 50) hx hb dX9_whyNotThing_3 (by decide) (fun _ => ?_) (fun c_ => absurd c_ (by decide))
  refine lv_iload_n hx hb dX9_whyNotThing_50 rfl (lv_at hl 1 rfl) ?_
  refine lv_bipush (v := 58) hx hb dX9_whyNotThing_51 (by decide) ?_
  refine lv_icmp_gt (tgt := 62) hx hb dX9_whyNotThing_53 (by decide) (fun _ => ?_) (fun c_ => absurd (by decide) c_)
  refine lv_iload_n hx hb dX9_whyNotThing_62 rfl (lv_at hl 1 rfl) ?_
  refine lv_bipush (v := 66) hx hb dX9_whyNotThing_63 (by decide) ?_
  refine lv_icmp_gt (tgt := 141) hx hb dX9_whyNotThing_65 (by decide) (fun c_ => absurd c_ (by decide)) (fun _ => ?_)
  refine lv_aload_n hx hb dX9_whyNotThing_68 rfl (lv_at hl 0 rfl) ?_
  refine lv_aload_n hx hb dX9_whyNotThing_69 rfl (lv_at hl 0 rfl) ?_
  refine r_get hC hw rk9 in_X9_whyNotThing_9 0 (wMl 0 (by decide)) wM0 8 (by decide) lk_X9_whyNotThing_31 (v := .ref (ad 7)) rfl dX9_whyNotThing_70 ?_
  refine lv_aload_n hx hb dX9_whyNotThing_73 rfl (lv_at hl 0 rfl) ?_
  refine r_get hC hw rk9 in_X9_whyNotThing_9 0 (wMl 0 (by decide)) wM0 31 (by decide) lk_X9_whyNotThing_126 (v := .int (t 1)) rfl dX9_whyNotThing_74 ?_
  refine r_iald hC hw 7 (wMl 7 (by decide)) wM7 (by assumption) dX9_whyNotThing_77 ?_
  refine lv_iload_n hx hb dX9_whyNotThing_78 rfl (lv_at hl 1 rfl) ?_
  refine lv_bipush (v := 66) hx hb dX9_whyNotThing_79 (by decide) ?_
  refine lv_icmp_ne (tgt := 89) hx hb dX9_whyNotThing_81 (by decide) (fun _ => ?_) (fun c_ => absurd c_ (by decide))
  refine lv_bipush (v := 11) hx hb dX9_whyNotThing_89 (by decide) ?_
  refine r_ki hw (r_runV (rest := []) hC hw 0 (c_X9_isWrong_11 l _ (sA κ 3 (aN (t 1))) (fun hn => wf_ref hW (by assumption) hn)) rk9 (wMl 0 (by decide)) wM0 2 gX9_whyNotThing_X9_isWrong rfl rfl rfl (by decide +kernel) ⟨Nat.le_of_ble_eq_true rfl, Nat.le_of_ble_eq_true rfl⟩ rfl hl.1 rfl (Nat.le_of_ble_eq_true rfl) dX9_whyNotThing_91 ⟨Nat.le_of_ble_eq_true rfl, Nat.le_of_ble_eq_true rfl⟩) (fun r_2 u_3 H locs h_1 hw => ?_)
  by_cases c_4 : pWrong κ (sA κ 3 (aN (t 1))) 11
  · rw [if_pos c_4] at h_1
    subst h_1
    refine lv_if_ne (tgt := 121) hx hb dX9_whyNotThing_94 (by decide) (fun _ => ?_) (fun c_ => absurd c_ (by decide))
    refine lv_iconst (v := 4) hx hb dX9_whyNotThing_121 (by decide) ?_
    exact r_iret hC hr hlk hw () rfl (if_pos c_4).symm (Nat.le_of_ble_eq_true rfl) (Nat.le_of_ble_eq_true rfl) dX9_whyNotThing_122
  · rw [if_neg c_4] at h_1
    subst h_1
    refine lv_if_ne (tgt := 121) hx hb dX9_whyNotThing_94 (by decide) (fun c_ => absurd (by decide) c_) (fun _ => ?_)
    refine lv_iload_n hx hb dX9_whyNotThing_97 rfl (lv_at hl 1 rfl) ?_
    refine lv_bipush (v := 64) hx hb dX9_whyNotThing_98 (by decide) ?_
    refine lv_icmp_ne (tgt := 123) hx hb dX9_whyNotThing_100 (by decide) (fun _ => ?_) (fun c_ => absurd c_ (by decide))
    refine lv_aload_n hx hb dX9_whyNotThing_123 rfl (lv_at hl 0 rfl) ?_
    refine r_get hC hw rk9 in_X9_whyNotThing_9 0 (wMl 0 (by decide)) wM0 8 (by decide) lk_X9_whyNotThing_31 (v := .ref (ad 7)) rfl dX9_whyNotThing_124 ?_
    refine lv_aload_n hx hb dX9_whyNotThing_127 rfl (lv_at hl 0 rfl) ?_
    refine r_get hC hw rk9 in_X9_whyNotThing_9 0 (wMl 0 (by decide)) wM0 31 (by decide) lk_X9_whyNotThing_126 (v := .int (t 1)) rfl dX9_whyNotThing_128 ?_
    refine r_iald hC hw 7 (wMl 7 (by decide)) wM7 (by assumption) dX9_whyNotThing_131 ?_
    refine lv_if_ne (tgt := 139) hx hb dX9_whyNotThing_132 (by decide) (fun c_5 => ?_) (fun c_5 => ?_)
    · refine lv_iconst (v := 0) hx hb dX9_whyNotThing_139 (by decide) ?_
      exact r_iret hC hr hlk hw () rfl ((if_neg c_4).trans (if_neg c_5)).symm (Nat.le_of_ble_eq_true rfl) (Nat.le_of_ble_eq_true rfl) dX9_whyNotThing_140
    · refine lv_iconst (v := 1) hx hb dX9_whyNotThing_135 (by decide) ?_
      refine lv_goto (tgt := 140) hx hb dX9_whyNotThing_136 (by decide) ?_
      exact r_iret hC hr hlk hw () rfl ((if_neg c_4).trans (if_pos c_5)).symm (Nat.le_of_ble_eq_true rfl) (Nat.le_of_ble_eq_true rfl) dX9_whyNotThing_140

set_option maxHeartbeats 4000000 in
set_option maxRecDepth 100000 in
theorem c_X9_whyNotThing_60 (l : Launch) {D : va_G} {q : Nat → ClassId} {ad : Nat → Nat} {κ : KS} {t : Nat → Int32} (sz : Nat) (hs : okStep 60 (t 0) (t 1) (t 2)) (hW : WFm κ) : Met l yX9_whyNotThing wsX9_whyNotThing (rmz 4 89) (va_Pc [.ref (ad 0), .int 60] (rPre D q (wM q ad κ t) sz)) (va_Qi (fun (r : Int32) (u : Unit) => r = why κ 60 (t 0) (t 1) (t 2)) (fun (u : Unit) tt => rPo D (rA (wM q ad κ t) sz) (wM q ad κ t) tt) (rA (wM q ad κ t) sz)) 0 0 (rA (wM q ad κ t) sz) := by
  have hi0 : vp_in (t 0) 8 := hs.1
  have hi1 : vp_in (t 1) 8 := hs.2.1
  refine r_start (cc := cX9_whyNotThing) (maxL := 2) (ret := (some .int)) (by decide) rfl (Nat.le_of_ble_eq_true rfl) ?_
  intro p e s m below meth c ls hC hr hlk hnm hsz hw hl
  have hx := hC.1
  have hb := hC.2.1
  have hl : lv_has ls 2 [(0, .ref (ad 0)), (1, .int 60)] := hl
  refine lv_iload_n hx hb dX9_whyNotThing_0 rfl (lv_at hl 1 rfl) ?_
  refine lv_bipush (v := 38) hx hb dX9_whyNotThing_1 (by decide) ?_
  refine lv_icmp_ne (tgt := 50) hx hb dX9_whyNotThing_3 (by decide) (fun _ => ?_) (fun c_ => absurd c_ (by decide))
  refine lv_iload_n hx hb dX9_whyNotThing_50 rfl (lv_at hl 1 rfl) ?_
  refine lv_bipush (v := 58) hx hb dX9_whyNotThing_51 (by decide) ?_
  refine lv_icmp_gt (tgt := 62) hx hb dX9_whyNotThing_53 (by decide) (fun _ => ?_) (fun c_ => absurd (by decide) c_)
  refine lv_iload_n hx hb dX9_whyNotThing_62 rfl (lv_at hl 1 rfl) ?_
  refine lv_bipush (v := 66) hx hb dX9_whyNotThing_63 (by decide) ?_
  refine lv_icmp_gt (tgt := 141) hx hb dX9_whyNotThing_65 (by decide) (fun c_ => absurd c_ (by decide)) (fun _ => ?_)
  refine lv_aload_n hx hb dX9_whyNotThing_68 rfl (lv_at hl 0 rfl) ?_
  refine lv_aload_n hx hb dX9_whyNotThing_69 rfl (lv_at hl 0 rfl) ?_
  refine r_get hC hw rk9 in_X9_whyNotThing_9 0 (wMl 0 (by decide)) wM0 8 (by decide) lk_X9_whyNotThing_31 (v := .ref (ad 7)) rfl dX9_whyNotThing_70 ?_
  refine lv_aload_n hx hb dX9_whyNotThing_73 rfl (lv_at hl 0 rfl) ?_
  refine r_get hC hw rk9 in_X9_whyNotThing_9 0 (wMl 0 (by decide)) wM0 31 (by decide) lk_X9_whyNotThing_126 (v := .int (t 1)) rfl dX9_whyNotThing_74 ?_
  refine r_iald hC hw 7 (wMl 7 (by decide)) wM7 (by assumption) dX9_whyNotThing_77 ?_
  refine lv_iload_n hx hb dX9_whyNotThing_78 rfl (lv_at hl 1 rfl) ?_
  refine lv_bipush (v := 66) hx hb dX9_whyNotThing_79 (by decide) ?_
  refine lv_icmp_ne (tgt := 89) hx hb dX9_whyNotThing_81 (by decide) (fun _ => ?_) (fun c_ => absurd c_ (by decide))
  refine lv_bipush (v := 11) hx hb dX9_whyNotThing_89 (by decide) ?_
  refine r_ki hw (r_runV (rest := []) hC hw 0 (c_X9_isWrong_11 l _ (sA κ 3 (aN (t 1))) (fun hn => wf_ref hW (by assumption) hn)) rk9 (wMl 0 (by decide)) wM0 2 gX9_whyNotThing_X9_isWrong rfl rfl rfl (by decide +kernel) ⟨Nat.le_of_ble_eq_true rfl, Nat.le_of_ble_eq_true rfl⟩ rfl hl.1 rfl (Nat.le_of_ble_eq_true rfl) dX9_whyNotThing_91 ⟨Nat.le_of_ble_eq_true rfl, Nat.le_of_ble_eq_true rfl⟩) (fun r_2 u_3 H locs h_1 hw => ?_)
  by_cases c_4 : pWrong κ (sA κ 3 (aN (t 1))) 11
  · rw [if_pos c_4] at h_1
    subst h_1
    refine lv_if_ne (tgt := 121) hx hb dX9_whyNotThing_94 (by decide) (fun _ => ?_) (fun c_ => absurd c_ (by decide))
    refine lv_iconst (v := 4) hx hb dX9_whyNotThing_121 (by decide) ?_
    exact r_iret hC hr hlk hw () rfl (if_pos c_4).symm (Nat.le_of_ble_eq_true rfl) (Nat.le_of_ble_eq_true rfl) dX9_whyNotThing_122
  · rw [if_neg c_4] at h_1
    subst h_1
    refine lv_if_ne (tgt := 121) hx hb dX9_whyNotThing_94 (by decide) (fun c_ => absurd (by decide) c_) (fun _ => ?_)
    refine lv_iload_n hx hb dX9_whyNotThing_97 rfl (lv_at hl 1 rfl) ?_
    refine lv_bipush (v := 64) hx hb dX9_whyNotThing_98 (by decide) ?_
    refine lv_icmp_ne (tgt := 123) hx hb dX9_whyNotThing_100 (by decide) (fun _ => ?_) (fun c_ => absurd c_ (by decide))
    refine lv_aload_n hx hb dX9_whyNotThing_123 rfl (lv_at hl 0 rfl) ?_
    refine r_get hC hw rk9 in_X9_whyNotThing_9 0 (wMl 0 (by decide)) wM0 8 (by decide) lk_X9_whyNotThing_31 (v := .ref (ad 7)) rfl dX9_whyNotThing_124 ?_
    refine lv_aload_n hx hb dX9_whyNotThing_127 rfl (lv_at hl 0 rfl) ?_
    refine r_get hC hw rk9 in_X9_whyNotThing_9 0 (wMl 0 (by decide)) wM0 31 (by decide) lk_X9_whyNotThing_126 (v := .int (t 1)) rfl dX9_whyNotThing_128 ?_
    refine r_iald hC hw 7 (wMl 7 (by decide)) wM7 (by assumption) dX9_whyNotThing_131 ?_
    refine lv_if_ne (tgt := 139) hx hb dX9_whyNotThing_132 (by decide) (fun c_5 => ?_) (fun c_5 => ?_)
    · refine lv_iconst (v := 0) hx hb dX9_whyNotThing_139 (by decide) ?_
      exact r_iret hC hr hlk hw () rfl ((if_neg c_4).trans (if_neg c_5)).symm (Nat.le_of_ble_eq_true rfl) (Nat.le_of_ble_eq_true rfl) dX9_whyNotThing_140
    · refine lv_iconst (v := 1) hx hb dX9_whyNotThing_135 (by decide) ?_
      refine lv_goto (tgt := 140) hx hb dX9_whyNotThing_136 (by decide) ?_
      exact r_iret hC hr hlk hw () rfl ((if_neg c_4).trans (if_pos c_5)).symm (Nat.le_of_ble_eq_true rfl) (Nat.le_of_ble_eq_true rfl) dX9_whyNotThing_140

set_option maxHeartbeats 4000000 in
set_option maxRecDepth 100000 in
theorem c_X9_whyNotThing_61 (l : Launch) {D : va_G} {q : Nat → ClassId} {ad : Nat → Nat} {κ : KS} {t : Nat → Int32} (sz : Nat) (hs : okStep 61 (t 0) (t 1) (t 2)) (hW : WFm κ) : Met l yX9_whyNotThing wsX9_whyNotThing (rmz 4 89) (va_Pc [.ref (ad 0), .int 61] (rPre D q (wM q ad κ t) sz)) (va_Qi (fun (r : Int32) (u : Unit) => r = why κ 61 (t 0) (t 1) (t 2)) (fun (u : Unit) tt => rPo D (rA (wM q ad κ t) sz) (wM q ad κ t) tt) (rA (wM q ad κ t) sz)) 0 0 (rA (wM q ad κ t) sz) := by
  have hi0 : vp_in (t 0) 4 := hs.1
  have hi1 : vp_in (t 1) 8 := hs.2.1
  refine r_start (cc := cX9_whyNotThing) (maxL := 2) (ret := (some .int)) (by decide) rfl (Nat.le_of_ble_eq_true rfl) ?_
  intro p e s m below meth c ls hC hr hlk hnm hsz hw hl
  have hx := hC.1
  have hb := hC.2.1
  have hl : lv_has ls 2 [(0, .ref (ad 0)), (1, .int 61)] := hl
  refine lv_iload_n hx hb dX9_whyNotThing_0 rfl (lv_at hl 1 rfl) ?_
  refine lv_bipush (v := 38) hx hb dX9_whyNotThing_1 (by decide) ?_
  refine lv_icmp_ne (tgt := 50) hx hb dX9_whyNotThing_3 (by decide) (fun _ => ?_) (fun c_ => absurd c_ (by decide))
  refine lv_iload_n hx hb dX9_whyNotThing_50 rfl (lv_at hl 1 rfl) ?_
  refine lv_bipush (v := 58) hx hb dX9_whyNotThing_51 (by decide) ?_
  refine lv_icmp_gt (tgt := 62) hx hb dX9_whyNotThing_53 (by decide) (fun _ => ?_) (fun c_ => absurd (by decide) c_)
  refine lv_iload_n hx hb dX9_whyNotThing_62 rfl (lv_at hl 1 rfl) ?_
  refine lv_bipush (v := 66) hx hb dX9_whyNotThing_63 (by decide) ?_
  refine lv_icmp_gt (tgt := 141) hx hb dX9_whyNotThing_65 (by decide) (fun c_ => absurd c_ (by decide)) (fun _ => ?_)
  refine lv_aload_n hx hb dX9_whyNotThing_68 rfl (lv_at hl 0 rfl) ?_
  refine lv_aload_n hx hb dX9_whyNotThing_69 rfl (lv_at hl 0 rfl) ?_
  refine r_get hC hw rk9 in_X9_whyNotThing_9 0 (wMl 0 (by decide)) wM0 8 (by decide) lk_X9_whyNotThing_31 (v := .ref (ad 7)) rfl dX9_whyNotThing_70 ?_
  refine lv_aload_n hx hb dX9_whyNotThing_73 rfl (lv_at hl 0 rfl) ?_
  refine r_get hC hw rk9 in_X9_whyNotThing_9 0 (wMl 0 (by decide)) wM0 31 (by decide) lk_X9_whyNotThing_126 (v := .int (t 1)) rfl dX9_whyNotThing_74 ?_
  refine r_iald hC hw 7 (wMl 7 (by decide)) wM7 (by assumption) dX9_whyNotThing_77 ?_
  refine lv_iload_n hx hb dX9_whyNotThing_78 rfl (lv_at hl 1 rfl) ?_
  refine lv_bipush (v := 66) hx hb dX9_whyNotThing_79 (by decide) ?_
  refine lv_icmp_ne (tgt := 89) hx hb dX9_whyNotThing_81 (by decide) (fun _ => ?_) (fun c_ => absurd c_ (by decide))
  refine lv_bipush (v := 11) hx hb dX9_whyNotThing_89 (by decide) ?_
  refine r_ki hw (r_runV (rest := []) hC hw 0 (c_X9_isWrong_11 l _ (sA κ 3 (aN (t 1))) (fun hn => wf_ref hW (by assumption) hn)) rk9 (wMl 0 (by decide)) wM0 2 gX9_whyNotThing_X9_isWrong rfl rfl rfl (by decide +kernel) ⟨Nat.le_of_ble_eq_true rfl, Nat.le_of_ble_eq_true rfl⟩ rfl hl.1 rfl (Nat.le_of_ble_eq_true rfl) dX9_whyNotThing_91 ⟨Nat.le_of_ble_eq_true rfl, Nat.le_of_ble_eq_true rfl⟩) (fun r_2 u_3 H locs h_1 hw => ?_)
  by_cases c_4 : pWrong κ (sA κ 3 (aN (t 1))) 11
  · rw [if_pos c_4] at h_1
    subst h_1
    refine lv_if_ne (tgt := 121) hx hb dX9_whyNotThing_94 (by decide) (fun _ => ?_) (fun c_ => absurd c_ (by decide))
    refine lv_iconst (v := 4) hx hb dX9_whyNotThing_121 (by decide) ?_
    exact r_iret hC hr hlk hw () rfl (if_pos c_4).symm (Nat.le_of_ble_eq_true rfl) (Nat.le_of_ble_eq_true rfl) dX9_whyNotThing_122
  · rw [if_neg c_4] at h_1
    subst h_1
    refine lv_if_ne (tgt := 121) hx hb dX9_whyNotThing_94 (by decide) (fun c_ => absurd (by decide) c_) (fun _ => ?_)
    refine lv_iload_n hx hb dX9_whyNotThing_97 rfl (lv_at hl 1 rfl) ?_
    refine lv_bipush (v := 64) hx hb dX9_whyNotThing_98 (by decide) ?_
    refine lv_icmp_ne (tgt := 123) hx hb dX9_whyNotThing_100 (by decide) (fun _ => ?_) (fun c_ => absurd c_ (by decide))
    refine lv_aload_n hx hb dX9_whyNotThing_123 rfl (lv_at hl 0 rfl) ?_
    refine r_get hC hw rk9 in_X9_whyNotThing_9 0 (wMl 0 (by decide)) wM0 8 (by decide) lk_X9_whyNotThing_31 (v := .ref (ad 7)) rfl dX9_whyNotThing_124 ?_
    refine lv_aload_n hx hb dX9_whyNotThing_127 rfl (lv_at hl 0 rfl) ?_
    refine r_get hC hw rk9 in_X9_whyNotThing_9 0 (wMl 0 (by decide)) wM0 31 (by decide) lk_X9_whyNotThing_126 (v := .int (t 1)) rfl dX9_whyNotThing_128 ?_
    refine r_iald hC hw 7 (wMl 7 (by decide)) wM7 (by assumption) dX9_whyNotThing_131 ?_
    refine lv_if_ne (tgt := 139) hx hb dX9_whyNotThing_132 (by decide) (fun c_5 => ?_) (fun c_5 => ?_)
    · refine lv_iconst (v := 0) hx hb dX9_whyNotThing_139 (by decide) ?_
      exact r_iret hC hr hlk hw () rfl ((if_neg c_4).trans (if_neg c_5)).symm (Nat.le_of_ble_eq_true rfl) (Nat.le_of_ble_eq_true rfl) dX9_whyNotThing_140
    · refine lv_iconst (v := 1) hx hb dX9_whyNotThing_135 (by decide) ?_
      refine lv_goto (tgt := 140) hx hb dX9_whyNotThing_136 (by decide) ?_
      exact r_iret hC hr hlk hw () rfl ((if_neg c_4).trans (if_pos c_5)).symm (Nat.le_of_ble_eq_true rfl) (Nat.le_of_ble_eq_true rfl) dX9_whyNotThing_140

set_option maxHeartbeats 4000000 in
set_option maxRecDepth 100000 in
theorem c_X9_whyNotThing_62 (l : Launch) {D : va_G} {q : Nat → ClassId} {ad : Nat → Nat} {κ : KS} {t : Nat → Int32} (sz : Nat) (hs : okStep 62 (t 0) (t 1) (t 2)) (hW : WFm κ) : Met l yX9_whyNotThing wsX9_whyNotThing (rmz 4 89) (va_Pc [.ref (ad 0), .int 62] (rPre D q (wM q ad κ t) sz)) (va_Qi (fun (r : Int32) (u : Unit) => r = why κ 62 (t 0) (t 1) (t 2)) (fun (u : Unit) tt => rPo D (rA (wM q ad κ t) sz) (wM q ad κ t) tt) (rA (wM q ad κ t) sz)) 0 0 (rA (wM q ad κ t) sz) := by
  have hi0 : vp_in (t 0) 4 := hs.1
  have hi1 : vp_in (t 1) 8 := hs.2.1
  refine r_start (cc := cX9_whyNotThing) (maxL := 2) (ret := (some .int)) (by decide) rfl (Nat.le_of_ble_eq_true rfl) ?_
  intro p e s m below meth c ls hC hr hlk hnm hsz hw hl
  have hx := hC.1
  have hb := hC.2.1
  have hl : lv_has ls 2 [(0, .ref (ad 0)), (1, .int 62)] := hl
  refine lv_iload_n hx hb dX9_whyNotThing_0 rfl (lv_at hl 1 rfl) ?_
  refine lv_bipush (v := 38) hx hb dX9_whyNotThing_1 (by decide) ?_
  refine lv_icmp_ne (tgt := 50) hx hb dX9_whyNotThing_3 (by decide) (fun _ => ?_) (fun c_ => absurd c_ (by decide))
  refine lv_iload_n hx hb dX9_whyNotThing_50 rfl (lv_at hl 1 rfl) ?_
  refine lv_bipush (v := 58) hx hb dX9_whyNotThing_51 (by decide) ?_
  refine lv_icmp_gt (tgt := 62) hx hb dX9_whyNotThing_53 (by decide) (fun _ => ?_) (fun c_ => absurd (by decide) c_)
  refine lv_iload_n hx hb dX9_whyNotThing_62 rfl (lv_at hl 1 rfl) ?_
  refine lv_bipush (v := 66) hx hb dX9_whyNotThing_63 (by decide) ?_
  refine lv_icmp_gt (tgt := 141) hx hb dX9_whyNotThing_65 (by decide) (fun c_ => absurd c_ (by decide)) (fun _ => ?_)
  refine lv_aload_n hx hb dX9_whyNotThing_68 rfl (lv_at hl 0 rfl) ?_
  refine lv_aload_n hx hb dX9_whyNotThing_69 rfl (lv_at hl 0 rfl) ?_
  refine r_get hC hw rk9 in_X9_whyNotThing_9 0 (wMl 0 (by decide)) wM0 8 (by decide) lk_X9_whyNotThing_31 (v := .ref (ad 7)) rfl dX9_whyNotThing_70 ?_
  refine lv_aload_n hx hb dX9_whyNotThing_73 rfl (lv_at hl 0 rfl) ?_
  refine r_get hC hw rk9 in_X9_whyNotThing_9 0 (wMl 0 (by decide)) wM0 31 (by decide) lk_X9_whyNotThing_126 (v := .int (t 1)) rfl dX9_whyNotThing_74 ?_
  refine r_iald hC hw 7 (wMl 7 (by decide)) wM7 (by assumption) dX9_whyNotThing_77 ?_
  refine lv_iload_n hx hb dX9_whyNotThing_78 rfl (lv_at hl 1 rfl) ?_
  refine lv_bipush (v := 66) hx hb dX9_whyNotThing_79 (by decide) ?_
  refine lv_icmp_ne (tgt := 89) hx hb dX9_whyNotThing_81 (by decide) (fun _ => ?_) (fun c_ => absurd c_ (by decide))
  refine lv_bipush (v := 11) hx hb dX9_whyNotThing_89 (by decide) ?_
  refine r_ki hw (r_runV (rest := []) hC hw 0 (c_X9_isWrong_11 l _ (sA κ 3 (aN (t 1))) (fun hn => wf_ref hW (by assumption) hn)) rk9 (wMl 0 (by decide)) wM0 2 gX9_whyNotThing_X9_isWrong rfl rfl rfl (by decide +kernel) ⟨Nat.le_of_ble_eq_true rfl, Nat.le_of_ble_eq_true rfl⟩ rfl hl.1 rfl (Nat.le_of_ble_eq_true rfl) dX9_whyNotThing_91 ⟨Nat.le_of_ble_eq_true rfl, Nat.le_of_ble_eq_true rfl⟩) (fun r_2 u_3 H locs h_1 hw => ?_)
  by_cases c_4 : pWrong κ (sA κ 3 (aN (t 1))) 11
  · rw [if_pos c_4] at h_1
    subst h_1
    refine lv_if_ne (tgt := 121) hx hb dX9_whyNotThing_94 (by decide) (fun _ => ?_) (fun c_ => absurd c_ (by decide))
    refine lv_iconst (v := 4) hx hb dX9_whyNotThing_121 (by decide) ?_
    exact r_iret hC hr hlk hw () rfl (if_pos c_4).symm (Nat.le_of_ble_eq_true rfl) (Nat.le_of_ble_eq_true rfl) dX9_whyNotThing_122
  · rw [if_neg c_4] at h_1
    subst h_1
    refine lv_if_ne (tgt := 121) hx hb dX9_whyNotThing_94 (by decide) (fun c_ => absurd (by decide) c_) (fun _ => ?_)
    refine lv_iload_n hx hb dX9_whyNotThing_97 rfl (lv_at hl 1 rfl) ?_
    refine lv_bipush (v := 64) hx hb dX9_whyNotThing_98 (by decide) ?_
    refine lv_icmp_ne (tgt := 123) hx hb dX9_whyNotThing_100 (by decide) (fun _ => ?_) (fun c_ => absurd c_ (by decide))
    refine lv_aload_n hx hb dX9_whyNotThing_123 rfl (lv_at hl 0 rfl) ?_
    refine r_get hC hw rk9 in_X9_whyNotThing_9 0 (wMl 0 (by decide)) wM0 8 (by decide) lk_X9_whyNotThing_31 (v := .ref (ad 7)) rfl dX9_whyNotThing_124 ?_
    refine lv_aload_n hx hb dX9_whyNotThing_127 rfl (lv_at hl 0 rfl) ?_
    refine r_get hC hw rk9 in_X9_whyNotThing_9 0 (wMl 0 (by decide)) wM0 31 (by decide) lk_X9_whyNotThing_126 (v := .int (t 1)) rfl dX9_whyNotThing_128 ?_
    refine r_iald hC hw 7 (wMl 7 (by decide)) wM7 (by assumption) dX9_whyNotThing_131 ?_
    refine lv_if_ne (tgt := 139) hx hb dX9_whyNotThing_132 (by decide) (fun c_5 => ?_) (fun c_5 => ?_)
    · refine lv_iconst (v := 0) hx hb dX9_whyNotThing_139 (by decide) ?_
      exact r_iret hC hr hlk hw () rfl ((if_neg c_4).trans (if_neg c_5)).symm (Nat.le_of_ble_eq_true rfl) (Nat.le_of_ble_eq_true rfl) dX9_whyNotThing_140
    · refine lv_iconst (v := 1) hx hb dX9_whyNotThing_135 (by decide) ?_
      refine lv_goto (tgt := 140) hx hb dX9_whyNotThing_136 (by decide) ?_
      exact r_iret hC hr hlk hw () rfl ((if_neg c_4).trans (if_pos c_5)).symm (Nat.le_of_ble_eq_true rfl) (Nat.le_of_ble_eq_true rfl) dX9_whyNotThing_140

set_option maxHeartbeats 4000000 in
set_option maxRecDepth 100000 in
theorem c_X9_whyNotThing_63 (l : Launch) {D : va_G} {q : Nat → ClassId} {ad : Nat → Nat} {κ : KS} {t : Nat → Int32} (sz : Nat) (hs : okStep 63 (t 0) (t 1) (t 2)) (hW : WFm κ) : Met l yX9_whyNotThing wsX9_whyNotThing (rmz 4 89) (va_Pc [.ref (ad 0), .int 63] (rPre D q (wM q ad κ t) sz)) (va_Qi (fun (r : Int32) (u : Unit) => r = why κ 63 (t 0) (t 1) (t 2)) (fun (u : Unit) tt => rPo D (rA (wM q ad κ t) sz) (wM q ad κ t) tt) (rA (wM q ad κ t) sz)) 0 0 (rA (wM q ad κ t) sz) := by
  have hi0 : vp_in (t 0) 8 := hs.1
  have hi1 : vp_in (t 1) 8 := hs.2.1
  refine r_start (cc := cX9_whyNotThing) (maxL := 2) (ret := (some .int)) (by decide) rfl (Nat.le_of_ble_eq_true rfl) ?_
  intro p e s m below meth c ls hC hr hlk hnm hsz hw hl
  have hx := hC.1
  have hb := hC.2.1
  have hl : lv_has ls 2 [(0, .ref (ad 0)), (1, .int 63)] := hl
  refine lv_iload_n hx hb dX9_whyNotThing_0 rfl (lv_at hl 1 rfl) ?_
  refine lv_bipush (v := 38) hx hb dX9_whyNotThing_1 (by decide) ?_
  refine lv_icmp_ne (tgt := 50) hx hb dX9_whyNotThing_3 (by decide) (fun _ => ?_) (fun c_ => absurd c_ (by decide))
  refine lv_iload_n hx hb dX9_whyNotThing_50 rfl (lv_at hl 1 rfl) ?_
  refine lv_bipush (v := 58) hx hb dX9_whyNotThing_51 (by decide) ?_
  refine lv_icmp_gt (tgt := 62) hx hb dX9_whyNotThing_53 (by decide) (fun _ => ?_) (fun c_ => absurd (by decide) c_)
  refine lv_iload_n hx hb dX9_whyNotThing_62 rfl (lv_at hl 1 rfl) ?_
  refine lv_bipush (v := 66) hx hb dX9_whyNotThing_63 (by decide) ?_
  refine lv_icmp_gt (tgt := 141) hx hb dX9_whyNotThing_65 (by decide) (fun c_ => absurd c_ (by decide)) (fun _ => ?_)
  refine lv_aload_n hx hb dX9_whyNotThing_68 rfl (lv_at hl 0 rfl) ?_
  refine lv_aload_n hx hb dX9_whyNotThing_69 rfl (lv_at hl 0 rfl) ?_
  refine r_get hC hw rk9 in_X9_whyNotThing_9 0 (wMl 0 (by decide)) wM0 8 (by decide) lk_X9_whyNotThing_31 (v := .ref (ad 7)) rfl dX9_whyNotThing_70 ?_
  refine lv_aload_n hx hb dX9_whyNotThing_73 rfl (lv_at hl 0 rfl) ?_
  refine r_get hC hw rk9 in_X9_whyNotThing_9 0 (wMl 0 (by decide)) wM0 31 (by decide) lk_X9_whyNotThing_126 (v := .int (t 1)) rfl dX9_whyNotThing_74 ?_
  refine r_iald hC hw 7 (wMl 7 (by decide)) wM7 (by assumption) dX9_whyNotThing_77 ?_
  refine lv_iload_n hx hb dX9_whyNotThing_78 rfl (lv_at hl 1 rfl) ?_
  refine lv_bipush (v := 66) hx hb dX9_whyNotThing_79 (by decide) ?_
  refine lv_icmp_ne (tgt := 89) hx hb dX9_whyNotThing_81 (by decide) (fun _ => ?_) (fun c_ => absurd c_ (by decide))
  refine lv_bipush (v := 11) hx hb dX9_whyNotThing_89 (by decide) ?_
  refine r_ki hw (r_runV (rest := []) hC hw 0 (c_X9_isWrong_11 l _ (sA κ 3 (aN (t 1))) (fun hn => wf_ref hW (by assumption) hn)) rk9 (wMl 0 (by decide)) wM0 2 gX9_whyNotThing_X9_isWrong rfl rfl rfl (by decide +kernel) ⟨Nat.le_of_ble_eq_true rfl, Nat.le_of_ble_eq_true rfl⟩ rfl hl.1 rfl (Nat.le_of_ble_eq_true rfl) dX9_whyNotThing_91 ⟨Nat.le_of_ble_eq_true rfl, Nat.le_of_ble_eq_true rfl⟩) (fun r_2 u_3 H locs h_1 hw => ?_)
  by_cases c_4 : pWrong κ (sA κ 3 (aN (t 1))) 11
  · rw [if_pos c_4] at h_1
    subst h_1
    refine lv_if_ne (tgt := 121) hx hb dX9_whyNotThing_94 (by decide) (fun _ => ?_) (fun c_ => absurd c_ (by decide))
    refine lv_iconst (v := 4) hx hb dX9_whyNotThing_121 (by decide) ?_
    exact r_iret hC hr hlk hw () rfl (if_pos c_4).symm (Nat.le_of_ble_eq_true rfl) (Nat.le_of_ble_eq_true rfl) dX9_whyNotThing_122
  · rw [if_neg c_4] at h_1
    subst h_1
    refine lv_if_ne (tgt := 121) hx hb dX9_whyNotThing_94 (by decide) (fun c_ => absurd (by decide) c_) (fun _ => ?_)
    refine lv_iload_n hx hb dX9_whyNotThing_97 rfl (lv_at hl 1 rfl) ?_
    refine lv_bipush (v := 64) hx hb dX9_whyNotThing_98 (by decide) ?_
    refine lv_icmp_ne (tgt := 123) hx hb dX9_whyNotThing_100 (by decide) (fun _ => ?_) (fun c_ => absurd c_ (by decide))
    refine lv_aload_n hx hb dX9_whyNotThing_123 rfl (lv_at hl 0 rfl) ?_
    refine r_get hC hw rk9 in_X9_whyNotThing_9 0 (wMl 0 (by decide)) wM0 8 (by decide) lk_X9_whyNotThing_31 (v := .ref (ad 7)) rfl dX9_whyNotThing_124 ?_
    refine lv_aload_n hx hb dX9_whyNotThing_127 rfl (lv_at hl 0 rfl) ?_
    refine r_get hC hw rk9 in_X9_whyNotThing_9 0 (wMl 0 (by decide)) wM0 31 (by decide) lk_X9_whyNotThing_126 (v := .int (t 1)) rfl dX9_whyNotThing_128 ?_
    refine r_iald hC hw 7 (wMl 7 (by decide)) wM7 (by assumption) dX9_whyNotThing_131 ?_
    refine lv_if_ne (tgt := 139) hx hb dX9_whyNotThing_132 (by decide) (fun c_5 => ?_) (fun c_5 => ?_)
    · refine lv_iconst (v := 0) hx hb dX9_whyNotThing_139 (by decide) ?_
      exact r_iret hC hr hlk hw () rfl ((if_neg c_4).trans (if_neg c_5)).symm (Nat.le_of_ble_eq_true rfl) (Nat.le_of_ble_eq_true rfl) dX9_whyNotThing_140
    · refine lv_iconst (v := 1) hx hb dX9_whyNotThing_135 (by decide) ?_
      refine lv_goto (tgt := 140) hx hb dX9_whyNotThing_136 (by decide) ?_
      exact r_iret hC hr hlk hw () rfl ((if_neg c_4).trans (if_pos c_5)).symm (Nat.le_of_ble_eq_true rfl) (Nat.le_of_ble_eq_true rfl) dX9_whyNotThing_140

set_option maxHeartbeats 4000000 in
set_option maxRecDepth 100000 in
theorem c_X9_whyNotThing_64 (l : Launch) {D : va_G} {q : Nat → ClassId} {ad : Nat → Nat} {κ : KS} {t : Nat → Int32} (sz : Nat) (hs : okStep 64 (t 0) (t 1) (t 2)) (hW : WFm κ) : Met l yX9_whyNotThing wsX9_whyNotThing (rmz 4 89) (va_Pc [.ref (ad 0), .int 64] (rPre D q (wM q ad κ t) sz)) (va_Qi (fun (r : Int32) (u : Unit) => r = why κ 64 (t 0) (t 1) (t 2)) (fun (u : Unit) tt => rPo D (rA (wM q ad κ t) sz) (wM q ad κ t) tt) (rA (wM q ad κ t) sz)) 0 0 (rA (wM q ad κ t) sz) := by
  have hi0 : vp_in (t 0) 8 := hs.1
  have hi1 : vp_in (t 1) 8 := hs.2.1
  refine r_start (cc := cX9_whyNotThing) (maxL := 2) (ret := (some .int)) (by decide) rfl (Nat.le_of_ble_eq_true rfl) ?_
  intro p e s m below meth c ls hC hr hlk hnm hsz hw hl
  have hx := hC.1
  have hb := hC.2.1
  have hl : lv_has ls 2 [(0, .ref (ad 0)), (1, .int 64)] := hl
  refine lv_iload_n hx hb dX9_whyNotThing_0 rfl (lv_at hl 1 rfl) ?_
  refine lv_bipush (v := 38) hx hb dX9_whyNotThing_1 (by decide) ?_
  refine lv_icmp_ne (tgt := 50) hx hb dX9_whyNotThing_3 (by decide) (fun _ => ?_) (fun c_ => absurd c_ (by decide))
  refine lv_iload_n hx hb dX9_whyNotThing_50 rfl (lv_at hl 1 rfl) ?_
  refine lv_bipush (v := 58) hx hb dX9_whyNotThing_51 (by decide) ?_
  refine lv_icmp_gt (tgt := 62) hx hb dX9_whyNotThing_53 (by decide) (fun _ => ?_) (fun c_ => absurd (by decide) c_)
  refine lv_iload_n hx hb dX9_whyNotThing_62 rfl (lv_at hl 1 rfl) ?_
  refine lv_bipush (v := 66) hx hb dX9_whyNotThing_63 (by decide) ?_
  refine lv_icmp_gt (tgt := 141) hx hb dX9_whyNotThing_65 (by decide) (fun c_ => absurd c_ (by decide)) (fun _ => ?_)
  refine lv_aload_n hx hb dX9_whyNotThing_68 rfl (lv_at hl 0 rfl) ?_
  refine lv_aload_n hx hb dX9_whyNotThing_69 rfl (lv_at hl 0 rfl) ?_
  refine r_get hC hw rk9 in_X9_whyNotThing_9 0 (wMl 0 (by decide)) wM0 8 (by decide) lk_X9_whyNotThing_31 (v := .ref (ad 7)) rfl dX9_whyNotThing_70 ?_
  refine lv_aload_n hx hb dX9_whyNotThing_73 rfl (lv_at hl 0 rfl) ?_
  refine r_get hC hw rk9 in_X9_whyNotThing_9 0 (wMl 0 (by decide)) wM0 31 (by decide) lk_X9_whyNotThing_126 (v := .int (t 1)) rfl dX9_whyNotThing_74 ?_
  refine r_iald hC hw 7 (wMl 7 (by decide)) wM7 (by assumption) dX9_whyNotThing_77 ?_
  refine lv_iload_n hx hb dX9_whyNotThing_78 rfl (lv_at hl 1 rfl) ?_
  refine lv_bipush (v := 66) hx hb dX9_whyNotThing_79 (by decide) ?_
  refine lv_icmp_ne (tgt := 89) hx hb dX9_whyNotThing_81 (by decide) (fun _ => ?_) (fun c_ => absurd c_ (by decide))
  refine lv_bipush (v := 11) hx hb dX9_whyNotThing_89 (by decide) ?_
  refine r_ki hw (r_runV (rest := []) hC hw 0 (c_X9_isWrong_11 l _ (sA κ 3 (aN (t 1))) (fun hn => wf_ref hW (by assumption) hn)) rk9 (wMl 0 (by decide)) wM0 2 gX9_whyNotThing_X9_isWrong rfl rfl rfl (by decide +kernel) ⟨Nat.le_of_ble_eq_true rfl, Nat.le_of_ble_eq_true rfl⟩ rfl hl.1 rfl (Nat.le_of_ble_eq_true rfl) dX9_whyNotThing_91 ⟨Nat.le_of_ble_eq_true rfl, Nat.le_of_ble_eq_true rfl⟩) (fun r_2 u_3 H locs h_1 hw => ?_)
  by_cases c_4 : pWrong κ (sA κ 3 (aN (t 1))) 11
  · rw [if_pos c_4] at h_1
    subst h_1
    refine lv_if_ne (tgt := 121) hx hb dX9_whyNotThing_94 (by decide) (fun _ => ?_) (fun c_ => absurd c_ (by decide))
    refine lv_iconst (v := 4) hx hb dX9_whyNotThing_121 (by decide) ?_
    exact r_iret hC hr hlk hw () rfl (if_pos c_4).symm (Nat.le_of_ble_eq_true rfl) (Nat.le_of_ble_eq_true rfl) dX9_whyNotThing_122
  · rw [if_neg c_4] at h_1
    subst h_1
    refine lv_if_ne (tgt := 121) hx hb dX9_whyNotThing_94 (by decide) (fun c_ => absurd (by decide) c_) (fun _ => ?_)
    refine lv_iload_n hx hb dX9_whyNotThing_97 rfl (lv_at hl 1 rfl) ?_
    refine lv_bipush (v := 64) hx hb dX9_whyNotThing_98 (by decide) ?_
    refine lv_icmp_ne (tgt := 123) hx hb dX9_whyNotThing_100 (by decide) (fun c_ => absurd (by decide) c_) (fun _ => ?_)
    refine lv_aload_n hx hb dX9_whyNotThing_103 rfl (lv_at hl 0 rfl) ?_
    refine lv_aload_n hx hb dX9_whyNotThing_104 rfl (lv_at hl 0 rfl) ?_
    refine r_get hC hw rk9 in_X9_whyNotThing_9 0 (wMl 0 (by decide)) wM0 8 (by decide) lk_X9_whyNotThing_31 (v := .ref (ad 7)) rfl dX9_whyNotThing_105 ?_
    refine lv_aload_n hx hb dX9_whyNotThing_108 rfl (lv_at hl 0 rfl) ?_
    refine r_get hC hw rk9 in_X9_whyNotThing_9 0 (wMl 0 (by decide)) wM0 30 (by decide) lk_X9_whyNotThing_142 (v := .int (t 0)) rfl dX9_whyNotThing_109 ?_
    refine r_iald hC hw 7 (wMl 7 (by decide)) wM7 (by assumption) dX9_whyNotThing_112 ?_
    refine lv_bipush (v := 11) hx hb dX9_whyNotThing_113 (by decide) ?_
    refine r_ki hw (r_runV (rest := []) hC hw 0 (c_X9_isWrong_11 l _ (sA κ 3 (aN (t 0))) (fun hn => wf_ref hW (by assumption) hn)) rk9 (wMl 0 (by decide)) wM0 2 gX9_whyNotThing_X9_isWrong rfl rfl rfl (by decide +kernel) ⟨Nat.le_of_ble_eq_true rfl, Nat.le_of_ble_eq_true rfl⟩ rfl hl.1 rfl (Nat.le_of_ble_eq_true rfl) dX9_whyNotThing_115 ⟨Nat.le_of_ble_eq_true rfl, Nat.le_of_ble_eq_true rfl⟩) (fun r_6 u_7 H locs h_5 hw => ?_)
    by_cases c_8 : pWrong κ (sA κ 3 (aN (t 0))) 11
    · rw [if_pos c_8] at h_5
      subst h_5
      refine lv_if_eq (tgt := 123) hx hb dX9_whyNotThing_118 (by decide) (fun c_ => absurd c_ (by decide)) (fun _ => ?_)
      refine lv_iconst (v := 4) hx hb dX9_whyNotThing_121 (by decide) ?_
      exact r_iret hC hr hlk hw () rfl ((if_neg c_4).trans (if_pos c_8)).symm (Nat.le_of_ble_eq_true rfl) (Nat.le_of_ble_eq_true rfl) dX9_whyNotThing_122
    · rw [if_neg c_8] at h_5
      subst h_5
      refine lv_if_eq (tgt := 123) hx hb dX9_whyNotThing_118 (by decide) (fun _ => ?_) (fun c_ => absurd (by decide) c_)
      refine lv_aload_n hx hb dX9_whyNotThing_123 rfl (lv_at hl 0 rfl) ?_
      refine r_get hC hw rk9 in_X9_whyNotThing_9 0 (wMl 0 (by decide)) wM0 8 (by decide) lk_X9_whyNotThing_31 (v := .ref (ad 7)) rfl dX9_whyNotThing_124 ?_
      refine lv_aload_n hx hb dX9_whyNotThing_127 rfl (lv_at hl 0 rfl) ?_
      refine r_get hC hw rk9 in_X9_whyNotThing_9 0 (wMl 0 (by decide)) wM0 31 (by decide) lk_X9_whyNotThing_126 (v := .int (t 1)) rfl dX9_whyNotThing_128 ?_
      refine r_iald hC hw 7 (wMl 7 (by decide)) wM7 (by assumption) dX9_whyNotThing_131 ?_
      refine lv_if_ne (tgt := 139) hx hb dX9_whyNotThing_132 (by decide) (fun c_9 => ?_) (fun c_9 => ?_)
      · refine lv_iconst (v := 0) hx hb dX9_whyNotThing_139 (by decide) ?_
        exact r_iret hC hr hlk hw () rfl ((if_neg c_4).trans ((if_neg c_8).trans (if_neg c_9))).symm (Nat.le_of_ble_eq_true rfl) (Nat.le_of_ble_eq_true rfl) dX9_whyNotThing_140
      · refine lv_iconst (v := 1) hx hb dX9_whyNotThing_135 (by decide) ?_
        refine lv_goto (tgt := 140) hx hb dX9_whyNotThing_136 (by decide) ?_
        exact r_iret hC hr hlk hw () rfl ((if_neg c_4).trans ((if_neg c_8).trans (if_pos c_9))).symm (Nat.le_of_ble_eq_true rfl) (Nat.le_of_ble_eq_true rfl) dX9_whyNotThing_140

set_option maxHeartbeats 4000000 in
set_option maxRecDepth 100000 in
theorem c_X9_whyNotThing_65 (l : Launch) {D : va_G} {q : Nat → ClassId} {ad : Nat → Nat} {κ : KS} {t : Nat → Int32} (sz : Nat) (hs : okStep 65 (t 0) (t 1) (t 2)) (hW : WFm κ) : Met l yX9_whyNotThing wsX9_whyNotThing (rmz 4 89) (va_Pc [.ref (ad 0), .int 65] (rPre D q (wM q ad κ t) sz)) (va_Qi (fun (r : Int32) (u : Unit) => r = why κ 65 (t 0) (t 1) (t 2)) (fun (u : Unit) tt => rPo D (rA (wM q ad κ t) sz) (wM q ad κ t) tt) (rA (wM q ad κ t) sz)) 0 0 (rA (wM q ad κ t) sz) := by
  have hi0 : vp_in (t 0) 8 := hs.1
  have hi1 : vp_in (t 1) 8 := hs.2.1
  have hi2 : vp_in (t 2) 8 := hs.2.2
  refine r_start (cc := cX9_whyNotThing) (maxL := 2) (ret := (some .int)) (by decide) rfl (Nat.le_of_ble_eq_true rfl) ?_
  intro p e s m below meth c ls hC hr hlk hnm hsz hw hl
  have hx := hC.1
  have hb := hC.2.1
  have hl : lv_has ls 2 [(0, .ref (ad 0)), (1, .int 65)] := hl
  refine lv_iload_n hx hb dX9_whyNotThing_0 rfl (lv_at hl 1 rfl) ?_
  refine lv_bipush (v := 38) hx hb dX9_whyNotThing_1 (by decide) ?_
  refine lv_icmp_ne (tgt := 50) hx hb dX9_whyNotThing_3 (by decide) (fun _ => ?_) (fun c_ => absurd c_ (by decide))
  refine lv_iload_n hx hb dX9_whyNotThing_50 rfl (lv_at hl 1 rfl) ?_
  refine lv_bipush (v := 58) hx hb dX9_whyNotThing_51 (by decide) ?_
  refine lv_icmp_gt (tgt := 62) hx hb dX9_whyNotThing_53 (by decide) (fun _ => ?_) (fun c_ => absurd (by decide) c_)
  refine lv_iload_n hx hb dX9_whyNotThing_62 rfl (lv_at hl 1 rfl) ?_
  refine lv_bipush (v := 66) hx hb dX9_whyNotThing_63 (by decide) ?_
  refine lv_icmp_gt (tgt := 141) hx hb dX9_whyNotThing_65 (by decide) (fun c_ => absurd c_ (by decide)) (fun _ => ?_)
  refine lv_aload_n hx hb dX9_whyNotThing_68 rfl (lv_at hl 0 rfl) ?_
  refine lv_aload_n hx hb dX9_whyNotThing_69 rfl (lv_at hl 0 rfl) ?_
  refine r_get hC hw rk9 in_X9_whyNotThing_9 0 (wMl 0 (by decide)) wM0 8 (by decide) lk_X9_whyNotThing_31 (v := .ref (ad 7)) rfl dX9_whyNotThing_70 ?_
  refine lv_aload_n hx hb dX9_whyNotThing_73 rfl (lv_at hl 0 rfl) ?_
  refine r_get hC hw rk9 in_X9_whyNotThing_9 0 (wMl 0 (by decide)) wM0 31 (by decide) lk_X9_whyNotThing_126 (v := .int (t 1)) rfl dX9_whyNotThing_74 ?_
  refine r_iald hC hw 7 (wMl 7 (by decide)) wM7 (by assumption) dX9_whyNotThing_77 ?_
  refine lv_iload_n hx hb dX9_whyNotThing_78 rfl (lv_at hl 1 rfl) ?_
  refine lv_bipush (v := 66) hx hb dX9_whyNotThing_79 (by decide) ?_
  refine lv_icmp_ne (tgt := 89) hx hb dX9_whyNotThing_81 (by decide) (fun _ => ?_) (fun c_ => absurd c_ (by decide))
  refine lv_bipush (v := 11) hx hb dX9_whyNotThing_89 (by decide) ?_
  refine r_ki hw (r_runV (rest := []) hC hw 0 (c_X9_isWrong_11 l _ (sA κ 3 (aN (t 1))) (fun hn => wf_ref hW (by assumption) hn)) rk9 (wMl 0 (by decide)) wM0 2 gX9_whyNotThing_X9_isWrong rfl rfl rfl (by decide +kernel) ⟨Nat.le_of_ble_eq_true rfl, Nat.le_of_ble_eq_true rfl⟩ rfl hl.1 rfl (Nat.le_of_ble_eq_true rfl) dX9_whyNotThing_91 ⟨Nat.le_of_ble_eq_true rfl, Nat.le_of_ble_eq_true rfl⟩) (fun r_2 u_3 H locs h_1 hw => ?_)
  by_cases c_4 : pWrong κ (sA κ 3 (aN (t 1))) 11
  · rw [if_pos c_4] at h_1
    subst h_1
    refine lv_if_ne (tgt := 121) hx hb dX9_whyNotThing_94 (by decide) (fun _ => ?_) (fun c_ => absurd c_ (by decide))
    refine lv_iconst (v := 4) hx hb dX9_whyNotThing_121 (by decide) ?_
    exact r_iret hC hr hlk hw () rfl (if_pos c_4).symm (Nat.le_of_ble_eq_true rfl) (Nat.le_of_ble_eq_true rfl) dX9_whyNotThing_122
  · rw [if_neg c_4] at h_1
    subst h_1
    refine lv_if_ne (tgt := 121) hx hb dX9_whyNotThing_94 (by decide) (fun c_ => absurd (by decide) c_) (fun _ => ?_)
    refine lv_iload_n hx hb dX9_whyNotThing_97 rfl (lv_at hl 1 rfl) ?_
    refine lv_bipush (v := 64) hx hb dX9_whyNotThing_98 (by decide) ?_
    refine lv_icmp_ne (tgt := 123) hx hb dX9_whyNotThing_100 (by decide) (fun _ => ?_) (fun c_ => absurd c_ (by decide))
    refine lv_aload_n hx hb dX9_whyNotThing_123 rfl (lv_at hl 0 rfl) ?_
    refine r_get hC hw rk9 in_X9_whyNotThing_9 0 (wMl 0 (by decide)) wM0 8 (by decide) lk_X9_whyNotThing_31 (v := .ref (ad 7)) rfl dX9_whyNotThing_124 ?_
    refine lv_aload_n hx hb dX9_whyNotThing_127 rfl (lv_at hl 0 rfl) ?_
    refine r_get hC hw rk9 in_X9_whyNotThing_9 0 (wMl 0 (by decide)) wM0 31 (by decide) lk_X9_whyNotThing_126 (v := .int (t 1)) rfl dX9_whyNotThing_128 ?_
    refine r_iald hC hw 7 (wMl 7 (by decide)) wM7 (by assumption) dX9_whyNotThing_131 ?_
    refine lv_if_ne (tgt := 139) hx hb dX9_whyNotThing_132 (by decide) (fun c_5 => ?_) (fun c_5 => ?_)
    · refine lv_iconst (v := 0) hx hb dX9_whyNotThing_139 (by decide) ?_
      exact r_iret hC hr hlk hw () rfl ((if_neg c_4).trans (if_neg c_5)).symm (Nat.le_of_ble_eq_true rfl) (Nat.le_of_ble_eq_true rfl) dX9_whyNotThing_140
    · refine lv_iconst (v := 1) hx hb dX9_whyNotThing_135 (by decide) ?_
      refine lv_goto (tgt := 140) hx hb dX9_whyNotThing_136 (by decide) ?_
      exact r_iret hC hr hlk hw () rfl ((if_neg c_4).trans (if_pos c_5)).symm (Nat.le_of_ble_eq_true rfl) (Nat.le_of_ble_eq_true rfl) dX9_whyNotThing_140

set_option maxHeartbeats 4000000 in
set_option maxRecDepth 100000 in
theorem c_X9_whyNotThing_66 (l : Launch) {D : va_G} {q : Nat → ClassId} {ad : Nat → Nat} {κ : KS} {t : Nat → Int32} (sz : Nat) (hs : okStep 66 (t 0) (t 1) (t 2)) (hW : WFm κ) : Met l yX9_whyNotThing wsX9_whyNotThing (rmz 4 89) (va_Pc [.ref (ad 0), .int 66] (rPre D q (wM q ad κ t) sz)) (va_Qi (fun (r : Int32) (u : Unit) => r = why κ 66 (t 0) (t 1) (t 2)) (fun (u : Unit) tt => rPo D (rA (wM q ad κ t) sz) (wM q ad κ t) tt) (rA (wM q ad κ t) sz)) 0 0 (rA (wM q ad κ t) sz) := by
  have hi0 : vp_in (t 0) 8 := hs.1
  have hi1 : vp_in (t 1) 8 := hs.2.1
  have hi2 : vp_in (t 2) 8 := hs.2.2
  refine r_start (cc := cX9_whyNotThing) (maxL := 2) (ret := (some .int)) (by decide) rfl (Nat.le_of_ble_eq_true rfl) ?_
  intro p e s m below meth c ls hC hr hlk hnm hsz hw hl
  have hx := hC.1
  have hb := hC.2.1
  have hl : lv_has ls 2 [(0, .ref (ad 0)), (1, .int 66)] := hl
  refine lv_iload_n hx hb dX9_whyNotThing_0 rfl (lv_at hl 1 rfl) ?_
  refine lv_bipush (v := 38) hx hb dX9_whyNotThing_1 (by decide) ?_
  refine lv_icmp_ne (tgt := 50) hx hb dX9_whyNotThing_3 (by decide) (fun _ => ?_) (fun c_ => absurd c_ (by decide))
  refine lv_iload_n hx hb dX9_whyNotThing_50 rfl (lv_at hl 1 rfl) ?_
  refine lv_bipush (v := 58) hx hb dX9_whyNotThing_51 (by decide) ?_
  refine lv_icmp_gt (tgt := 62) hx hb dX9_whyNotThing_53 (by decide) (fun _ => ?_) (fun c_ => absurd (by decide) c_)
  refine lv_iload_n hx hb dX9_whyNotThing_62 rfl (lv_at hl 1 rfl) ?_
  refine lv_bipush (v := 66) hx hb dX9_whyNotThing_63 (by decide) ?_
  refine lv_icmp_gt (tgt := 141) hx hb dX9_whyNotThing_65 (by decide) (fun c_ => absurd c_ (by decide)) (fun _ => ?_)
  refine lv_aload_n hx hb dX9_whyNotThing_68 rfl (lv_at hl 0 rfl) ?_
  refine lv_aload_n hx hb dX9_whyNotThing_69 rfl (lv_at hl 0 rfl) ?_
  refine r_get hC hw rk9 in_X9_whyNotThing_9 0 (wMl 0 (by decide)) wM0 8 (by decide) lk_X9_whyNotThing_31 (v := .ref (ad 7)) rfl dX9_whyNotThing_70 ?_
  refine lv_aload_n hx hb dX9_whyNotThing_73 rfl (lv_at hl 0 rfl) ?_
  refine r_get hC hw rk9 in_X9_whyNotThing_9 0 (wMl 0 (by decide)) wM0 31 (by decide) lk_X9_whyNotThing_126 (v := .int (t 1)) rfl dX9_whyNotThing_74 ?_
  refine r_iald hC hw 7 (wMl 7 (by decide)) wM7 (by assumption) dX9_whyNotThing_77 ?_
  refine lv_iload_n hx hb dX9_whyNotThing_78 rfl (lv_at hl 1 rfl) ?_
  refine lv_bipush (v := 66) hx hb dX9_whyNotThing_79 (by decide) ?_
  refine lv_icmp_ne (tgt := 89) hx hb dX9_whyNotThing_81 (by decide) (fun c_ => absurd (by decide) c_) (fun _ => ?_)
  refine lv_bipush (v := 16) hx hb dX9_whyNotThing_84 (by decide) ?_
  refine lv_goto (tgt := 91) hx hb dX9_whyNotThing_86 (by decide) ?_
  refine r_ki hw (r_runV (rest := []) hC hw 0 (c_X9_isWrong_16 l _ (sA κ 3 (aN (t 1))) (fun hn => wf_ref hW (by assumption) hn)) rk9 (wMl 0 (by decide)) wM0 2 gX9_whyNotThing_X9_isWrong rfl rfl rfl (by decide +kernel) ⟨Nat.le_of_ble_eq_true rfl, Nat.le_of_ble_eq_true rfl⟩ rfl hl.1 rfl (Nat.le_of_ble_eq_true rfl) dX9_whyNotThing_91 ⟨Nat.le_of_ble_eq_true rfl, Nat.le_of_ble_eq_true rfl⟩) (fun r_2 u_3 H locs h_1 hw => ?_)
  by_cases c_4 : pWrong κ (sA κ 3 (aN (t 1))) 16
  · rw [if_pos c_4] at h_1
    subst h_1
    refine lv_if_ne (tgt := 121) hx hb dX9_whyNotThing_94 (by decide) (fun _ => ?_) (fun c_ => absurd c_ (by decide))
    refine lv_iconst (v := 4) hx hb dX9_whyNotThing_121 (by decide) ?_
    exact r_iret hC hr hlk hw () rfl (if_pos c_4).symm (Nat.le_of_ble_eq_true rfl) (Nat.le_of_ble_eq_true rfl) dX9_whyNotThing_122
  · rw [if_neg c_4] at h_1
    subst h_1
    refine lv_if_ne (tgt := 121) hx hb dX9_whyNotThing_94 (by decide) (fun c_ => absurd (by decide) c_) (fun _ => ?_)
    refine lv_iload_n hx hb dX9_whyNotThing_97 rfl (lv_at hl 1 rfl) ?_
    refine lv_bipush (v := 64) hx hb dX9_whyNotThing_98 (by decide) ?_
    refine lv_icmp_ne (tgt := 123) hx hb dX9_whyNotThing_100 (by decide) (fun _ => ?_) (fun c_ => absurd c_ (by decide))
    refine lv_aload_n hx hb dX9_whyNotThing_123 rfl (lv_at hl 0 rfl) ?_
    refine r_get hC hw rk9 in_X9_whyNotThing_9 0 (wMl 0 (by decide)) wM0 8 (by decide) lk_X9_whyNotThing_31 (v := .ref (ad 7)) rfl dX9_whyNotThing_124 ?_
    refine lv_aload_n hx hb dX9_whyNotThing_127 rfl (lv_at hl 0 rfl) ?_
    refine r_get hC hw rk9 in_X9_whyNotThing_9 0 (wMl 0 (by decide)) wM0 31 (by decide) lk_X9_whyNotThing_126 (v := .int (t 1)) rfl dX9_whyNotThing_128 ?_
    refine r_iald hC hw 7 (wMl 7 (by decide)) wM7 (by assumption) dX9_whyNotThing_131 ?_
    refine lv_if_ne (tgt := 139) hx hb dX9_whyNotThing_132 (by decide) (fun c_5 => ?_) (fun c_5 => ?_)
    · refine lv_iconst (v := 0) hx hb dX9_whyNotThing_139 (by decide) ?_
      exact r_iret hC hr hlk hw () rfl ((if_neg c_4).trans (if_neg c_5)).symm (Nat.le_of_ble_eq_true rfl) (Nat.le_of_ble_eq_true rfl) dX9_whyNotThing_140
    · refine lv_iconst (v := 1) hx hb dX9_whyNotThing_135 (by decide) ?_
      refine lv_goto (tgt := 140) hx hb dX9_whyNotThing_136 (by decide) ?_
      exact r_iret hC hr hlk hw () rfl ((if_neg c_4).trans (if_pos c_5)).symm (Nat.le_of_ble_eq_true rfl) (Nat.le_of_ble_eq_true rfl) dX9_whyNotThing_140

set_option maxHeartbeats 4000000 in
set_option maxRecDepth 100000 in
theorem c_X9_whyNotThing_67 (l : Launch) {D : va_G} {q : Nat → ClassId} {ad : Nat → Nat} {κ : KS} {t : Nat → Int32} (sz : Nat) (hs : okStep 67 (t 0) (t 1) (t 2)) (hW : WFm κ) : Met l yX9_whyNotThing wsX9_whyNotThing (rmz 4 89) (va_Pc [.ref (ad 0), .int 67] (rPre D q (wM q ad κ t) sz)) (va_Qi (fun (r : Int32) (u : Unit) => r = why κ 67 (t 0) (t 1) (t 2)) (fun (u : Unit) tt => rPo D (rA (wM q ad κ t) sz) (wM q ad κ t) tt) (rA (wM q ad κ t) sz)) 0 0 (rA (wM q ad κ t) sz) := by
  have hi0 : vp_in (t 0) 8 := hs.1
  have hi1 : vp_in (t 1) 8 := hs.2.1
  have hi2 : vp_in (t 2) 8 := hs.2.2
  refine r_start (cc := cX9_whyNotThing) (maxL := 2) (ret := (some .int)) (by decide) rfl (Nat.le_of_ble_eq_true rfl) ?_
  intro p e s m below meth c ls hC hr hlk hnm hsz hw hl
  have hx := hC.1
  have hb := hC.2.1
  have hl : lv_has ls 2 [(0, .ref (ad 0)), (1, .int 67)] := hl
  refine lv_iload_n hx hb dX9_whyNotThing_0 rfl (lv_at hl 1 rfl) ?_
  refine lv_bipush (v := 38) hx hb dX9_whyNotThing_1 (by decide) ?_
  refine lv_icmp_ne (tgt := 50) hx hb dX9_whyNotThing_3 (by decide) (fun _ => ?_) (fun c_ => absurd c_ (by decide))
  refine lv_iload_n hx hb dX9_whyNotThing_50 rfl (lv_at hl 1 rfl) ?_
  refine lv_bipush (v := 58) hx hb dX9_whyNotThing_51 (by decide) ?_
  refine lv_icmp_gt (tgt := 62) hx hb dX9_whyNotThing_53 (by decide) (fun _ => ?_) (fun c_ => absurd (by decide) c_)
  refine lv_iload_n hx hb dX9_whyNotThing_62 rfl (lv_at hl 1 rfl) ?_
  refine lv_bipush (v := 66) hx hb dX9_whyNotThing_63 (by decide) ?_
  refine lv_icmp_gt (tgt := 141) hx hb dX9_whyNotThing_65 (by decide) (fun _ => ?_) (fun c_ => absurd (by decide) c_)
  refine lv_iload_n hx hb dX9_whyNotThing_141 rfl (lv_at hl 1 rfl) ?_
  refine lv_bipush (v := 67) hx hb dX9_whyNotThing_142 (by decide) ?_
  refine lv_icmp_ne (tgt := 185) hx hb dX9_whyNotThing_144 (by decide) (fun c_ => absurd (by decide) c_) (fun _ => ?_)
  refine lv_aload_n hx hb dX9_whyNotThing_147 rfl (lv_at hl 0 rfl) ?_
  refine lv_aload_n hx hb dX9_whyNotThing_148 rfl (lv_at hl 0 rfl) ?_
  refine r_get hC hw rk9 in_X9_whyNotThing_9 0 (wMl 0 (by decide)) wM0 8 (by decide) lk_X9_whyNotThing_31 (v := .ref (ad 7)) rfl dX9_whyNotThing_149 ?_
  refine lv_aload_n hx hb dX9_whyNotThing_152 rfl (lv_at hl 0 rfl) ?_
  refine r_get hC hw rk9 in_X9_whyNotThing_9 0 (wMl 0 (by decide)) wM0 32 (by decide) lk_X9_whyNotThing_123 (v := .int (t 2)) rfl dX9_whyNotThing_153 ?_
  refine r_iald hC hw 7 (wMl 7 (by decide)) wM7 (by assumption) dX9_whyNotThing_156 ?_
  refine lv_bipush (v := 15) hx hb dX9_whyNotThing_157 (by decide) ?_
  refine r_ki hw (r_runV (rest := []) hC hw 0 (c_X9_isWrong_15 l _ (sA κ 3 (aN (t 2))) (fun hn => wf_ref hW (by assumption) hn)) rk9 (wMl 0 (by decide)) wM0 2 gX9_whyNotThing_X9_isWrong rfl rfl rfl (by decide +kernel) ⟨Nat.le_of_ble_eq_true rfl, Nat.le_of_ble_eq_true rfl⟩ rfl hl.1 rfl (Nat.le_of_ble_eq_true rfl) dX9_whyNotThing_159 ⟨Nat.le_of_ble_eq_true rfl, Nat.le_of_ble_eq_true rfl⟩) (fun r_2 u_3 H locs h_1 hw => ?_)
  by_cases c_4 : pWrong κ (sA κ 3 (aN (t 2))) 15
  · rw [if_pos c_4] at h_1
    subst h_1
    refine lv_if_eq (tgt := 169) hx hb dX9_whyNotThing_162 (by decide) (fun c_ => absurd c_ (by decide)) (fun _ => ?_)
    refine lv_iconst (v := 4) hx hb dX9_whyNotThing_165 (by decide) ?_
    refine lv_goto (tgt := 184) hx hb dX9_whyNotThing_166 (by decide) ?_
    exact r_iret hC hr hlk hw () rfl (if_pos c_4).symm (Nat.le_of_ble_eq_true rfl) (Nat.le_of_ble_eq_true rfl) dX9_whyNotThing_184
  · rw [if_neg c_4] at h_1
    subst h_1
    refine lv_if_eq (tgt := 169) hx hb dX9_whyNotThing_162 (by decide) (fun _ => ?_) (fun c_ => absurd (by decide) c_)
    refine lv_aload_n hx hb dX9_whyNotThing_169 rfl (lv_at hl 0 rfl) ?_
    refine r_get hC hw rk9 in_X9_whyNotThing_9 0 (wMl 0 (by decide)) wM0 17 (by decide) lk_X9_whyNotThing_89 (v := .int (sI κ 2)) rfl dX9_whyNotThing_170 ?_
    refine lv_bipush (v := 60) hx hb dX9_whyNotThing_173 (by decide) ?_
    refine lv_icmp_ne (tgt := 183) hx hb dX9_whyNotThing_175 (by decide) (fun c_5 => ?_) (fun c_5 => ?_)
    · refine lv_iconst (v := 0) hx hb dX9_whyNotThing_183 (by decide) ?_
      exact r_iret hC hr hlk hw () rfl ((if_neg c_4).trans (if_neg c_5)).symm (Nat.le_of_ble_eq_true rfl) (Nat.le_of_ble_eq_true rfl) dX9_whyNotThing_184
    · refine lv_bipush (v := 7) hx hb dX9_whyNotThing_178 (by decide) ?_
      refine lv_goto (tgt := 184) hx hb dX9_whyNotThing_180 (by decide) ?_
      exact r_iret hC hr hlk hw () rfl ((if_neg c_4).trans (if_pos c_5)).symm (Nat.le_of_ble_eq_true rfl) (Nat.le_of_ble_eq_true rfl) dX9_whyNotThing_184

set_option maxHeartbeats 4000000 in
set_option maxRecDepth 100000 in
theorem c_X9_whyNotThing_68 (l : Launch) {D : va_G} {q : Nat → ClassId} {ad : Nat → Nat} {κ : KS} {t : Nat → Int32} (sz : Nat) (hs : okStep 68 (t 0) (t 1) (t 2)) (hW : WFm κ) : Met l yX9_whyNotThing wsX9_whyNotThing (rmz 4 89) (va_Pc [.ref (ad 0), .int 68] (rPre D q (wM q ad κ t) sz)) (va_Qi (fun (r : Int32) (u : Unit) => r = why κ 68 (t 0) (t 1) (t 2)) (fun (u : Unit) tt => rPo D (rA (wM q ad κ t) sz) (wM q ad κ t) tt) (rA (wM q ad κ t) sz)) 0 0 (rA (wM q ad κ t) sz) := by
  have hi0 : vp_in (t 0) 8 := hs.1
  refine r_start (cc := cX9_whyNotThing) (maxL := 2) (ret := (some .int)) (by decide) rfl (Nat.le_of_ble_eq_true rfl) ?_
  intro p e s m below meth c ls hC hr hlk hnm hsz hw hl
  have hx := hC.1
  have hb := hC.2.1
  have hl : lv_has ls 2 [(0, .ref (ad 0)), (1, .int 68)] := hl
  refine lv_iload_n hx hb dX9_whyNotThing_0 rfl (lv_at hl 1 rfl) ?_
  refine lv_bipush (v := 38) hx hb dX9_whyNotThing_1 (by decide) ?_
  refine lv_icmp_ne (tgt := 50) hx hb dX9_whyNotThing_3 (by decide) (fun _ => ?_) (fun c_ => absurd c_ (by decide))
  refine lv_iload_n hx hb dX9_whyNotThing_50 rfl (lv_at hl 1 rfl) ?_
  refine lv_bipush (v := 58) hx hb dX9_whyNotThing_51 (by decide) ?_
  refine lv_icmp_gt (tgt := 62) hx hb dX9_whyNotThing_53 (by decide) (fun _ => ?_) (fun c_ => absurd (by decide) c_)
  refine lv_iload_n hx hb dX9_whyNotThing_62 rfl (lv_at hl 1 rfl) ?_
  refine lv_bipush (v := 66) hx hb dX9_whyNotThing_63 (by decide) ?_
  refine lv_icmp_gt (tgt := 141) hx hb dX9_whyNotThing_65 (by decide) (fun _ => ?_) (fun c_ => absurd (by decide) c_)
  refine lv_iload_n hx hb dX9_whyNotThing_141 rfl (lv_at hl 1 rfl) ?_
  refine lv_bipush (v := 67) hx hb dX9_whyNotThing_142 (by decide) ?_
  refine lv_icmp_ne (tgt := 185) hx hb dX9_whyNotThing_144 (by decide) (fun _ => ?_) (fun c_ => absurd c_ (by decide))
  refine lv_iload_n hx hb dX9_whyNotThing_185 rfl (lv_at hl 1 rfl) ?_
  refine lv_bipush (v := 68) hx hb dX9_whyNotThing_186 (by decide) ?_
  refine lv_icmp_ne (tgt := 246) hx hb dX9_whyNotThing_188 (by decide) (fun c_ => absurd (by decide) c_) (fun _ => ?_)
  refine lv_aload_n hx hb dX9_whyNotThing_191 rfl (lv_at hl 0 rfl) ?_
  refine r_get hC hw rk9 in_X9_whyNotThing_9 0 (wMl 0 (by decide)) wM0 8 (by decide) lk_X9_whyNotThing_31 (v := .ref (ad 7)) rfl dX9_whyNotThing_192 ?_
  refine lv_aload_n hx hb dX9_whyNotThing_195 rfl (lv_at hl 0 rfl) ?_
  refine r_get hC hw rk9 in_X9_whyNotThing_9 0 (wMl 0 (by decide)) wM0 30 (by decide) lk_X9_whyNotThing_142 (v := .int (t 0)) rfl dX9_whyNotThing_196 ?_
  refine r_iald hC hw 7 (wMl 7 (by decide)) wM7 (by assumption) dX9_whyNotThing_199 ?_
  refine lv_if_ne (tgt := 207) hx hb dX9_whyNotThing_200 (by decide) (fun c_1 => ?_) (fun c_1 => ?_)
  · refine lv_aload_n hx hb dX9_whyNotThing_207 rfl (lv_at hl 0 rfl) ?_
    refine lv_aload_n hx hb dX9_whyNotThing_208 rfl (lv_at hl 0 rfl) ?_
    refine r_get hC hw rk9 in_X9_whyNotThing_9 0 (wMl 0 (by decide)) wM0 8 (by decide) lk_X9_whyNotThing_31 (v := .ref (ad 7)) rfl dX9_whyNotThing_209 ?_
    refine lv_aload_n hx hb dX9_whyNotThing_212 rfl (lv_at hl 0 rfl) ?_
    refine r_get hC hw rk9 in_X9_whyNotThing_9 0 (wMl 0 (by decide)) wM0 30 (by decide) lk_X9_whyNotThing_142 (v := .int (t 0)) rfl dX9_whyNotThing_213 ?_
    refine r_iald hC hw 7 (wMl 7 (by decide)) wM7 (by assumption) dX9_whyNotThing_216 ?_
    refine lv_bipush (v := 15) hx hb dX9_whyNotThing_217 (by decide) ?_
    refine r_ki hw (r_runV (rest := []) hC hw 0 (c_X9_isWrong_15 l _ (sA κ 3 (aN (t 0))) (fun hn => wf_ref hW (by assumption) hn)) rk9 (wMl 0 (by decide)) wM0 2 gX9_whyNotThing_X9_isWrong rfl rfl rfl (by decide +kernel) ⟨Nat.le_of_ble_eq_true rfl, Nat.le_of_ble_eq_true rfl⟩ rfl hl.1 rfl (Nat.le_of_ble_eq_true rfl) dX9_whyNotThing_219 ⟨Nat.le_of_ble_eq_true rfl, Nat.le_of_ble_eq_true rfl⟩) (fun r_3 u_4 H locs h_2 hw => ?_)
    by_cases c_5 : pWrong κ (sA κ 3 (aN (t 0))) 15
    · rw [if_pos c_5] at h_2
      subst h_2
      refine lv_if_eq (tgt := 229) hx hb dX9_whyNotThing_222 (by decide) (fun c_ => absurd c_ (by decide)) (fun _ => ?_)
      refine lv_iconst (v := 4) hx hb dX9_whyNotThing_225 (by decide) ?_
      refine lv_goto (tgt := 245) hx hb dX9_whyNotThing_226 (by decide) ?_
      exact r_iret hC hr hlk hw () rfl ((if_neg c_1).trans (if_pos c_5)).symm (Nat.le_of_ble_eq_true rfl) (Nat.le_of_ble_eq_true rfl) dX9_whyNotThing_245
    · rw [if_neg c_5] at h_2
      subst h_2
      refine lv_if_eq (tgt := 229) hx hb dX9_whyNotThing_222 (by decide) (fun _ => ?_) (fun c_ => absurd (by decide) c_)
      refine lv_aload_n hx hb dX9_whyNotThing_229 rfl (lv_at hl 0 rfl) ?_
      refine r_get hC hw rk9 in_X9_whyNotThing_9 0 (wMl 0 (by decide)) wM0 14 (by decide) lk_X9_whyNotThing_49 (v := .ref (ad 13)) rfl dX9_whyNotThing_230 ?_
      refine lv_aload_n hx hb dX9_whyNotThing_233 rfl (lv_at hl 0 rfl) ?_
      refine r_get hC hw rk9 in_X9_whyNotThing_9 0 (wMl 0 (by decide)) wM0 8 (by decide) lk_X9_whyNotThing_31 (v := .ref (ad 7)) rfl dX9_whyNotThing_234 ?_
      refine lv_aload_n hx hb dX9_whyNotThing_237 rfl (lv_at hl 0 rfl) ?_
      refine r_get hC hw rk9 in_X9_whyNotThing_9 0 (wMl 0 (by decide)) wM0 30 (by decide) lk_X9_whyNotThing_142 (v := .int (t 0)) rfl dX9_whyNotThing_238 ?_
      refine r_iald hC hw 7 (wMl 7 (by decide)) wM7 (by assumption) dX9_whyNotThing_241 ?_
      refine lv_iconst (v := 1) hx hb dX9_whyNotThing_242 (by decide) ?_
      refine lv_isub hx hb dX9_whyNotThing_243 ?_
      refine r_iald hC hw 13 (wMl 13 (by decide)) wM13 (wf_ref hW (by assumption) (by assumption)) dX9_whyNotThing_244 ?_
      exact r_iret hC hr hlk hw () rfl ((if_neg c_1).trans (if_neg c_5)).symm (Nat.le_of_ble_eq_true rfl) (Nat.le_of_ble_eq_true rfl) dX9_whyNotThing_245
  · refine lv_iconst (v := 1) hx hb dX9_whyNotThing_203 (by decide) ?_
    refine lv_goto (tgt := 245) hx hb dX9_whyNotThing_204 (by decide) ?_
    exact r_iret hC hr hlk hw () rfl (if_pos c_1).symm (Nat.le_of_ble_eq_true rfl) (Nat.le_of_ble_eq_true rfl) dX9_whyNotThing_245

set_option maxHeartbeats 4000000 in
set_option maxRecDepth 100000 in
theorem c_X9_whyNotThing_69 (l : Launch) {D : va_G} {q : Nat → ClassId} {ad : Nat → Nat} {κ : KS} {t : Nat → Int32} (sz : Nat) (hs : okStep 69 (t 0) (t 1) (t 2)) (hW : WFm κ) : Met l yX9_whyNotThing wsX9_whyNotThing (rmz 4 89) (va_Pc [.ref (ad 0), .int 69] (rPre D q (wM q ad κ t) sz)) (va_Qi (fun (r : Int32) (u : Unit) => r = why κ 69 (t 0) (t 1) (t 2)) (fun (u : Unit) tt => rPo D (rA (wM q ad κ t) sz) (wM q ad κ t) tt) (rA (wM q ad κ t) sz)) 0 0 (rA (wM q ad κ t) sz) := by
  have hi0 : vp_in (t 0) 8 := hs.1
  refine r_start (cc := cX9_whyNotThing) (maxL := 2) (ret := (some .int)) (by decide) rfl (Nat.le_of_ble_eq_true rfl) ?_
  intro p e s m below meth c ls hC hr hlk hnm hsz hw hl
  have hx := hC.1
  have hb := hC.2.1
  have hl : lv_has ls 2 [(0, .ref (ad 0)), (1, .int 69)] := hl
  refine lv_iload_n hx hb dX9_whyNotThing_0 rfl (lv_at hl 1 rfl) ?_
  refine lv_bipush (v := 38) hx hb dX9_whyNotThing_1 (by decide) ?_
  refine lv_icmp_ne (tgt := 50) hx hb dX9_whyNotThing_3 (by decide) (fun _ => ?_) (fun c_ => absurd c_ (by decide))
  refine lv_iload_n hx hb dX9_whyNotThing_50 rfl (lv_at hl 1 rfl) ?_
  refine lv_bipush (v := 58) hx hb dX9_whyNotThing_51 (by decide) ?_
  refine lv_icmp_gt (tgt := 62) hx hb dX9_whyNotThing_53 (by decide) (fun _ => ?_) (fun c_ => absurd (by decide) c_)
  refine lv_iload_n hx hb dX9_whyNotThing_62 rfl (lv_at hl 1 rfl) ?_
  refine lv_bipush (v := 66) hx hb dX9_whyNotThing_63 (by decide) ?_
  refine lv_icmp_gt (tgt := 141) hx hb dX9_whyNotThing_65 (by decide) (fun _ => ?_) (fun c_ => absurd (by decide) c_)
  refine lv_iload_n hx hb dX9_whyNotThing_141 rfl (lv_at hl 1 rfl) ?_
  refine lv_bipush (v := 67) hx hb dX9_whyNotThing_142 (by decide) ?_
  refine lv_icmp_ne (tgt := 185) hx hb dX9_whyNotThing_144 (by decide) (fun _ => ?_) (fun c_ => absurd c_ (by decide))
  refine lv_iload_n hx hb dX9_whyNotThing_185 rfl (lv_at hl 1 rfl) ?_
  refine lv_bipush (v := 68) hx hb dX9_whyNotThing_186 (by decide) ?_
  refine lv_icmp_ne (tgt := 246) hx hb dX9_whyNotThing_188 (by decide) (fun _ => ?_) (fun c_ => absurd c_ (by decide))
  refine lv_iload_n hx hb dX9_whyNotThing_246 rfl (lv_at hl 1 rfl) ?_
  refine lv_bipush (v := 70) hx hb dX9_whyNotThing_247 (by decide) ?_
  refine lv_icmp_eq (tgt := 258) hx hb dX9_whyNotThing_249 (by decide) (fun c_ => absurd c_ (by decide)) (fun _ => ?_)
  refine lv_iload_n hx hb dX9_whyNotThing_252 rfl (lv_at hl 1 rfl) ?_
  refine lv_bipush (v := 71) hx hb dX9_whyNotThing_253 (by decide) ?_
  refine lv_icmp_ne (tgt := 298) hx hb dX9_whyNotThing_255 (by decide) (fun _ => ?_) (fun c_ => absurd c_ (by decide))
  refine lv_iconst (v := 0) hx hb dX9_whyNotThing_298 (by decide) ?_
  exact r_iret hC hr hlk hw () rfl rfl (Nat.le_of_ble_eq_true rfl) (Nat.le_of_ble_eq_true rfl) dX9_whyNotThing_299

set_option maxHeartbeats 4000000 in
set_option maxRecDepth 100000 in
theorem c_X9_whyNotThing_70 (l : Launch) {D : va_G} {q : Nat → ClassId} {ad : Nat → Nat} {κ : KS} {t : Nat → Int32} (sz : Nat) (hs : okStep 70 (t 0) (t 1) (t 2)) (hW : WFm κ) : Met l yX9_whyNotThing wsX9_whyNotThing (rmz 4 89) (va_Pc [.ref (ad 0), .int 70] (rPre D q (wM q ad κ t) sz)) (va_Qi (fun (r : Int32) (u : Unit) => r = why κ 70 (t 0) (t 1) (t 2)) (fun (u : Unit) tt => rPo D (rA (wM q ad κ t) sz) (wM q ad κ t) tt) (rA (wM q ad κ t) sz)) 0 0 (rA (wM q ad κ t) sz) := by
  have hi0 : vp_in (t 0) 8 := hs.1
  have hi1 : vp_in (t 1) 8 := hs.2.1
  refine r_start (cc := cX9_whyNotThing) (maxL := 2) (ret := (some .int)) (by decide) rfl (Nat.le_of_ble_eq_true rfl) ?_
  intro p e s m below meth c ls hC hr hlk hnm hsz hw hl
  have hx := hC.1
  have hb := hC.2.1
  have hl : lv_has ls 2 [(0, .ref (ad 0)), (1, .int 70)] := hl
  refine lv_iload_n hx hb dX9_whyNotThing_0 rfl (lv_at hl 1 rfl) ?_
  refine lv_bipush (v := 38) hx hb dX9_whyNotThing_1 (by decide) ?_
  refine lv_icmp_ne (tgt := 50) hx hb dX9_whyNotThing_3 (by decide) (fun _ => ?_) (fun c_ => absurd c_ (by decide))
  refine lv_iload_n hx hb dX9_whyNotThing_50 rfl (lv_at hl 1 rfl) ?_
  refine lv_bipush (v := 58) hx hb dX9_whyNotThing_51 (by decide) ?_
  refine lv_icmp_gt (tgt := 62) hx hb dX9_whyNotThing_53 (by decide) (fun _ => ?_) (fun c_ => absurd (by decide) c_)
  refine lv_iload_n hx hb dX9_whyNotThing_62 rfl (lv_at hl 1 rfl) ?_
  refine lv_bipush (v := 66) hx hb dX9_whyNotThing_63 (by decide) ?_
  refine lv_icmp_gt (tgt := 141) hx hb dX9_whyNotThing_65 (by decide) (fun _ => ?_) (fun c_ => absurd (by decide) c_)
  refine lv_iload_n hx hb dX9_whyNotThing_141 rfl (lv_at hl 1 rfl) ?_
  refine lv_bipush (v := 67) hx hb dX9_whyNotThing_142 (by decide) ?_
  refine lv_icmp_ne (tgt := 185) hx hb dX9_whyNotThing_144 (by decide) (fun _ => ?_) (fun c_ => absurd c_ (by decide))
  refine lv_iload_n hx hb dX9_whyNotThing_185 rfl (lv_at hl 1 rfl) ?_
  refine lv_bipush (v := 68) hx hb dX9_whyNotThing_186 (by decide) ?_
  refine lv_icmp_ne (tgt := 246) hx hb dX9_whyNotThing_188 (by decide) (fun _ => ?_) (fun c_ => absurd c_ (by decide))
  refine lv_iload_n hx hb dX9_whyNotThing_246 rfl (lv_at hl 1 rfl) ?_
  refine lv_bipush (v := 70) hx hb dX9_whyNotThing_247 (by decide) ?_
  refine lv_icmp_eq (tgt := 258) hx hb dX9_whyNotThing_249 (by decide) (fun _ => ?_) (fun c_ => absurd (by decide) c_)
  refine lv_aload_n hx hb dX9_whyNotThing_258 rfl (lv_at hl 0 rfl) ?_
  refine r_get hC hw rk9 in_X9_whyNotThing_9 0 (wMl 0 (by decide)) wM0 8 (by decide) lk_X9_whyNotThing_31 (v := .ref (ad 7)) rfl dX9_whyNotThing_259 ?_
  refine lv_aload_n hx hb dX9_whyNotThing_262 rfl (lv_at hl 0 rfl) ?_
  refine r_get hC hw rk9 in_X9_whyNotThing_9 0 (wMl 0 (by decide)) wM0 31 (by decide) lk_X9_whyNotThing_126 (v := .int (t 1)) rfl dX9_whyNotThing_263 ?_
  refine r_iald hC hw 7 (wMl 7 (by decide)) wM7 (by assumption) dX9_whyNotThing_266 ?_
  refine lv_if_ne (tgt := 274) hx hb dX9_whyNotThing_267 (by decide) (fun c_1 => ?_) (fun c_1 => ?_)
  · refine lv_aload_n hx hb dX9_whyNotThing_274 rfl (lv_at hl 0 rfl) ?_
    refine lv_aload_n hx hb dX9_whyNotThing_275 rfl (lv_at hl 0 rfl) ?_
    refine r_get hC hw rk9 in_X9_whyNotThing_9 0 (wMl 0 (by decide)) wM0 8 (by decide) lk_X9_whyNotThing_31 (v := .ref (ad 7)) rfl dX9_whyNotThing_276 ?_
    refine lv_aload_n hx hb dX9_whyNotThing_279 rfl (lv_at hl 0 rfl) ?_
    refine r_get hC hw rk9 in_X9_whyNotThing_9 0 (wMl 0 (by decide)) wM0 31 (by decide) lk_X9_whyNotThing_126 (v := .int (t 1)) rfl dX9_whyNotThing_280 ?_
    refine r_iald hC hw 7 (wMl 7 (by decide)) wM7 (by assumption) dX9_whyNotThing_283 ?_
    refine lv_bipush (v := 15) hx hb dX9_whyNotThing_284 (by decide) ?_
    refine r_ki hw (r_runV (rest := []) hC hw 0 (c_X9_isWrong_15 l _ (sA κ 3 (aN (t 1))) (fun hn => wf_ref hW (by assumption) hn)) rk9 (wMl 0 (by decide)) wM0 2 gX9_whyNotThing_X9_isWrong rfl rfl rfl (by decide +kernel) ⟨Nat.le_of_ble_eq_true rfl, Nat.le_of_ble_eq_true rfl⟩ rfl hl.1 rfl (Nat.le_of_ble_eq_true rfl) dX9_whyNotThing_286 ⟨Nat.le_of_ble_eq_true rfl, Nat.le_of_ble_eq_true rfl⟩) (fun r_3 u_4 H locs h_2 hw => ?_)
    by_cases c_5 : pWrong κ (sA κ 3 (aN (t 1))) 15
    · rw [if_pos c_5] at h_2
      subst h_2
      refine lv_if_eq (tgt := 296) hx hb dX9_whyNotThing_289 (by decide) (fun c_ => absurd c_ (by decide)) (fun _ => ?_)
      refine lv_iconst (v := 4) hx hb dX9_whyNotThing_292 (by decide) ?_
      refine lv_goto (tgt := 297) hx hb dX9_whyNotThing_293 (by decide) ?_
      exact r_iret hC hr hlk hw () rfl ((if_neg c_1).trans (if_pos c_5)).symm (Nat.le_of_ble_eq_true rfl) (Nat.le_of_ble_eq_true rfl) dX9_whyNotThing_297
    · rw [if_neg c_5] at h_2
      subst h_2
      refine lv_if_eq (tgt := 296) hx hb dX9_whyNotThing_289 (by decide) (fun _ => ?_) (fun c_ => absurd (by decide) c_)
      refine lv_iconst (v := 0) hx hb dX9_whyNotThing_296 (by decide) ?_
      exact r_iret hC hr hlk hw () rfl ((if_neg c_1).trans (if_neg c_5)).symm (Nat.le_of_ble_eq_true rfl) (Nat.le_of_ble_eq_true rfl) dX9_whyNotThing_297
  · refine lv_iconst (v := 1) hx hb dX9_whyNotThing_270 (by decide) ?_
    refine lv_goto (tgt := 297) hx hb dX9_whyNotThing_271 (by decide) ?_
    exact r_iret hC hr hlk hw () rfl (if_pos c_1).symm (Nat.le_of_ble_eq_true rfl) (Nat.le_of_ble_eq_true rfl) dX9_whyNotThing_297

set_option maxHeartbeats 4000000 in
set_option maxRecDepth 100000 in
theorem c_X9_whyNotThing_71 (l : Launch) {D : va_G} {q : Nat → ClassId} {ad : Nat → Nat} {κ : KS} {t : Nat → Int32} (sz : Nat) (hs : okStep 71 (t 0) (t 1) (t 2)) (hW : WFm κ) : Met l yX9_whyNotThing wsX9_whyNotThing (rmz 4 89) (va_Pc [.ref (ad 0), .int 71] (rPre D q (wM q ad κ t) sz)) (va_Qi (fun (r : Int32) (u : Unit) => r = why κ 71 (t 0) (t 1) (t 2)) (fun (u : Unit) tt => rPo D (rA (wM q ad κ t) sz) (wM q ad κ t) tt) (rA (wM q ad κ t) sz)) 0 0 (rA (wM q ad κ t) sz) := by
  have hi0 : vp_in (t 0) 8 := hs.1
  have hi1 : vp_in (t 1) 8 := hs.2.1
  refine r_start (cc := cX9_whyNotThing) (maxL := 2) (ret := (some .int)) (by decide) rfl (Nat.le_of_ble_eq_true rfl) ?_
  intro p e s m below meth c ls hC hr hlk hnm hsz hw hl
  have hx := hC.1
  have hb := hC.2.1
  have hl : lv_has ls 2 [(0, .ref (ad 0)), (1, .int 71)] := hl
  refine lv_iload_n hx hb dX9_whyNotThing_0 rfl (lv_at hl 1 rfl) ?_
  refine lv_bipush (v := 38) hx hb dX9_whyNotThing_1 (by decide) ?_
  refine lv_icmp_ne (tgt := 50) hx hb dX9_whyNotThing_3 (by decide) (fun _ => ?_) (fun c_ => absurd c_ (by decide))
  refine lv_iload_n hx hb dX9_whyNotThing_50 rfl (lv_at hl 1 rfl) ?_
  refine lv_bipush (v := 58) hx hb dX9_whyNotThing_51 (by decide) ?_
  refine lv_icmp_gt (tgt := 62) hx hb dX9_whyNotThing_53 (by decide) (fun _ => ?_) (fun c_ => absurd (by decide) c_)
  refine lv_iload_n hx hb dX9_whyNotThing_62 rfl (lv_at hl 1 rfl) ?_
  refine lv_bipush (v := 66) hx hb dX9_whyNotThing_63 (by decide) ?_
  refine lv_icmp_gt (tgt := 141) hx hb dX9_whyNotThing_65 (by decide) (fun _ => ?_) (fun c_ => absurd (by decide) c_)
  refine lv_iload_n hx hb dX9_whyNotThing_141 rfl (lv_at hl 1 rfl) ?_
  refine lv_bipush (v := 67) hx hb dX9_whyNotThing_142 (by decide) ?_
  refine lv_icmp_ne (tgt := 185) hx hb dX9_whyNotThing_144 (by decide) (fun _ => ?_) (fun c_ => absurd c_ (by decide))
  refine lv_iload_n hx hb dX9_whyNotThing_185 rfl (lv_at hl 1 rfl) ?_
  refine lv_bipush (v := 68) hx hb dX9_whyNotThing_186 (by decide) ?_
  refine lv_icmp_ne (tgt := 246) hx hb dX9_whyNotThing_188 (by decide) (fun _ => ?_) (fun c_ => absurd c_ (by decide))
  refine lv_iload_n hx hb dX9_whyNotThing_246 rfl (lv_at hl 1 rfl) ?_
  refine lv_bipush (v := 70) hx hb dX9_whyNotThing_247 (by decide) ?_
  refine lv_icmp_eq (tgt := 258) hx hb dX9_whyNotThing_249 (by decide) (fun c_ => absurd c_ (by decide)) (fun _ => ?_)
  refine lv_iload_n hx hb dX9_whyNotThing_252 rfl (lv_at hl 1 rfl) ?_
  refine lv_bipush (v := 71) hx hb dX9_whyNotThing_253 (by decide) ?_
  refine lv_icmp_ne (tgt := 298) hx hb dX9_whyNotThing_255 (by decide) (fun c_ => absurd (by decide) c_) (fun _ => ?_)
  refine lv_aload_n hx hb dX9_whyNotThing_258 rfl (lv_at hl 0 rfl) ?_
  refine r_get hC hw rk9 in_X9_whyNotThing_9 0 (wMl 0 (by decide)) wM0 8 (by decide) lk_X9_whyNotThing_31 (v := .ref (ad 7)) rfl dX9_whyNotThing_259 ?_
  refine lv_aload_n hx hb dX9_whyNotThing_262 rfl (lv_at hl 0 rfl) ?_
  refine r_get hC hw rk9 in_X9_whyNotThing_9 0 (wMl 0 (by decide)) wM0 31 (by decide) lk_X9_whyNotThing_126 (v := .int (t 1)) rfl dX9_whyNotThing_263 ?_
  refine r_iald hC hw 7 (wMl 7 (by decide)) wM7 (by assumption) dX9_whyNotThing_266 ?_
  refine lv_if_ne (tgt := 274) hx hb dX9_whyNotThing_267 (by decide) (fun c_1 => ?_) (fun c_1 => ?_)
  · refine lv_aload_n hx hb dX9_whyNotThing_274 rfl (lv_at hl 0 rfl) ?_
    refine lv_aload_n hx hb dX9_whyNotThing_275 rfl (lv_at hl 0 rfl) ?_
    refine r_get hC hw rk9 in_X9_whyNotThing_9 0 (wMl 0 (by decide)) wM0 8 (by decide) lk_X9_whyNotThing_31 (v := .ref (ad 7)) rfl dX9_whyNotThing_276 ?_
    refine lv_aload_n hx hb dX9_whyNotThing_279 rfl (lv_at hl 0 rfl) ?_
    refine r_get hC hw rk9 in_X9_whyNotThing_9 0 (wMl 0 (by decide)) wM0 31 (by decide) lk_X9_whyNotThing_126 (v := .int (t 1)) rfl dX9_whyNotThing_280 ?_
    refine r_iald hC hw 7 (wMl 7 (by decide)) wM7 (by assumption) dX9_whyNotThing_283 ?_
    refine lv_bipush (v := 15) hx hb dX9_whyNotThing_284 (by decide) ?_
    refine r_ki hw (r_runV (rest := []) hC hw 0 (c_X9_isWrong_15 l _ (sA κ 3 (aN (t 1))) (fun hn => wf_ref hW (by assumption) hn)) rk9 (wMl 0 (by decide)) wM0 2 gX9_whyNotThing_X9_isWrong rfl rfl rfl (by decide +kernel) ⟨Nat.le_of_ble_eq_true rfl, Nat.le_of_ble_eq_true rfl⟩ rfl hl.1 rfl (Nat.le_of_ble_eq_true rfl) dX9_whyNotThing_286 ⟨Nat.le_of_ble_eq_true rfl, Nat.le_of_ble_eq_true rfl⟩) (fun r_3 u_4 H locs h_2 hw => ?_)
    by_cases c_5 : pWrong κ (sA κ 3 (aN (t 1))) 15
    · rw [if_pos c_5] at h_2
      subst h_2
      refine lv_if_eq (tgt := 296) hx hb dX9_whyNotThing_289 (by decide) (fun c_ => absurd c_ (by decide)) (fun _ => ?_)
      refine lv_iconst (v := 4) hx hb dX9_whyNotThing_292 (by decide) ?_
      refine lv_goto (tgt := 297) hx hb dX9_whyNotThing_293 (by decide) ?_
      exact r_iret hC hr hlk hw () rfl ((if_neg c_1).trans (if_pos c_5)).symm (Nat.le_of_ble_eq_true rfl) (Nat.le_of_ble_eq_true rfl) dX9_whyNotThing_297
    · rw [if_neg c_5] at h_2
      subst h_2
      refine lv_if_eq (tgt := 296) hx hb dX9_whyNotThing_289 (by decide) (fun _ => ?_) (fun c_ => absurd (by decide) c_)
      refine lv_iconst (v := 0) hx hb dX9_whyNotThing_296 (by decide) ?_
      exact r_iret hC hr hlk hw () rfl ((if_neg c_1).trans (if_neg c_5)).symm (Nat.le_of_ble_eq_true rfl) (Nat.le_of_ble_eq_true rfl) dX9_whyNotThing_297
  · refine lv_iconst (v := 1) hx hb dX9_whyNotThing_270 (by decide) ?_
    refine lv_goto (tgt := 297) hx hb dX9_whyNotThing_271 (by decide) ?_
    exact r_iret hC hr hlk hw () rfl (if_pos c_1).symm (Nat.le_of_ble_eq_true rfl) (Nat.le_of_ble_eq_true rfl) dX9_whyNotThing_297

set_option maxHeartbeats 4000000 in
set_option maxRecDepth 100000 in
theorem c_X9_whyNotThing_72 (l : Launch) {D : va_G} {q : Nat → ClassId} {ad : Nat → Nat} {κ : KS} {t : Nat → Int32} (sz : Nat) (hs : okStep 72 (t 0) (t 1) (t 2)) (hW : WFm κ) : Met l yX9_whyNotThing wsX9_whyNotThing (rmz 4 89) (va_Pc [.ref (ad 0), .int 72] (rPre D q (wM q ad κ t) sz)) (va_Qi (fun (r : Int32) (u : Unit) => r = why κ 72 (t 0) (t 1) (t 2)) (fun (u : Unit) tt => rPo D (rA (wM q ad κ t) sz) (wM q ad κ t) tt) (rA (wM q ad κ t) sz)) 0 0 (rA (wM q ad κ t) sz) := by
  have hi0 : vp_in (t 0) 8 := hs.1
  refine r_start (cc := cX9_whyNotThing) (maxL := 2) (ret := (some .int)) (by decide) rfl (Nat.le_of_ble_eq_true rfl) ?_
  intro p e s m below meth c ls hC hr hlk hnm hsz hw hl
  have hx := hC.1
  have hb := hC.2.1
  have hl : lv_has ls 2 [(0, .ref (ad 0)), (1, .int 72)] := hl
  refine lv_iload_n hx hb dX9_whyNotThing_0 rfl (lv_at hl 1 rfl) ?_
  refine lv_bipush (v := 38) hx hb dX9_whyNotThing_1 (by decide) ?_
  refine lv_icmp_ne (tgt := 50) hx hb dX9_whyNotThing_3 (by decide) (fun _ => ?_) (fun c_ => absurd c_ (by decide))
  refine lv_iload_n hx hb dX9_whyNotThing_50 rfl (lv_at hl 1 rfl) ?_
  refine lv_bipush (v := 58) hx hb dX9_whyNotThing_51 (by decide) ?_
  refine lv_icmp_gt (tgt := 62) hx hb dX9_whyNotThing_53 (by decide) (fun _ => ?_) (fun c_ => absurd (by decide) c_)
  refine lv_iload_n hx hb dX9_whyNotThing_62 rfl (lv_at hl 1 rfl) ?_
  refine lv_bipush (v := 66) hx hb dX9_whyNotThing_63 (by decide) ?_
  refine lv_icmp_gt (tgt := 141) hx hb dX9_whyNotThing_65 (by decide) (fun _ => ?_) (fun c_ => absurd (by decide) c_)
  refine lv_iload_n hx hb dX9_whyNotThing_141 rfl (lv_at hl 1 rfl) ?_
  refine lv_bipush (v := 67) hx hb dX9_whyNotThing_142 (by decide) ?_
  refine lv_icmp_ne (tgt := 185) hx hb dX9_whyNotThing_144 (by decide) (fun _ => ?_) (fun c_ => absurd c_ (by decide))
  refine lv_iload_n hx hb dX9_whyNotThing_185 rfl (lv_at hl 1 rfl) ?_
  refine lv_bipush (v := 68) hx hb dX9_whyNotThing_186 (by decide) ?_
  refine lv_icmp_ne (tgt := 246) hx hb dX9_whyNotThing_188 (by decide) (fun _ => ?_) (fun c_ => absurd c_ (by decide))
  refine lv_iload_n hx hb dX9_whyNotThing_246 rfl (lv_at hl 1 rfl) ?_
  refine lv_bipush (v := 70) hx hb dX9_whyNotThing_247 (by decide) ?_
  refine lv_icmp_eq (tgt := 258) hx hb dX9_whyNotThing_249 (by decide) (fun c_ => absurd c_ (by decide)) (fun _ => ?_)
  refine lv_iload_n hx hb dX9_whyNotThing_252 rfl (lv_at hl 1 rfl) ?_
  refine lv_bipush (v := 71) hx hb dX9_whyNotThing_253 (by decide) ?_
  refine lv_icmp_ne (tgt := 298) hx hb dX9_whyNotThing_255 (by decide) (fun _ => ?_) (fun c_ => absurd c_ (by decide))
  refine lv_iconst (v := 0) hx hb dX9_whyNotThing_298 (by decide) ?_
  exact r_iret hC hr hlk hw () rfl rfl (Nat.le_of_ble_eq_true rfl) (Nat.le_of_ble_eq_true rfl) dX9_whyNotThing_299

set_option maxHeartbeats 4000000 in
set_option maxRecDepth 100000 in
theorem c_X9_whyNotThing_73 (l : Launch) {D : va_G} {q : Nat → ClassId} {ad : Nat → Nat} {κ : KS} {t : Nat → Int32} (sz : Nat) (hs : okStep 73 (t 0) (t 1) (t 2)) (hW : WFm κ) : Met l yX9_whyNotThing wsX9_whyNotThing (rmz 4 89) (va_Pc [.ref (ad 0), .int 73] (rPre D q (wM q ad κ t) sz)) (va_Qi (fun (r : Int32) (u : Unit) => r = why κ 73 (t 0) (t 1) (t 2)) (fun (u : Unit) tt => rPo D (rA (wM q ad κ t) sz) (wM q ad κ t) tt) (rA (wM q ad κ t) sz)) 0 0 (rA (wM q ad κ t) sz) := by
  have hi0 : vp_in (t 0) 8 := hs.1
  refine r_start (cc := cX9_whyNotThing) (maxL := 2) (ret := (some .int)) (by decide) rfl (Nat.le_of_ble_eq_true rfl) ?_
  intro p e s m below meth c ls hC hr hlk hnm hsz hw hl
  have hx := hC.1
  have hb := hC.2.1
  have hl : lv_has ls 2 [(0, .ref (ad 0)), (1, .int 73)] := hl
  refine lv_iload_n hx hb dX9_whyNotThing_0 rfl (lv_at hl 1 rfl) ?_
  refine lv_bipush (v := 38) hx hb dX9_whyNotThing_1 (by decide) ?_
  refine lv_icmp_ne (tgt := 50) hx hb dX9_whyNotThing_3 (by decide) (fun _ => ?_) (fun c_ => absurd c_ (by decide))
  refine lv_iload_n hx hb dX9_whyNotThing_50 rfl (lv_at hl 1 rfl) ?_
  refine lv_bipush (v := 58) hx hb dX9_whyNotThing_51 (by decide) ?_
  refine lv_icmp_gt (tgt := 62) hx hb dX9_whyNotThing_53 (by decide) (fun _ => ?_) (fun c_ => absurd (by decide) c_)
  refine lv_iload_n hx hb dX9_whyNotThing_62 rfl (lv_at hl 1 rfl) ?_
  refine lv_bipush (v := 66) hx hb dX9_whyNotThing_63 (by decide) ?_
  refine lv_icmp_gt (tgt := 141) hx hb dX9_whyNotThing_65 (by decide) (fun _ => ?_) (fun c_ => absurd (by decide) c_)
  refine lv_iload_n hx hb dX9_whyNotThing_141 rfl (lv_at hl 1 rfl) ?_
  refine lv_bipush (v := 67) hx hb dX9_whyNotThing_142 (by decide) ?_
  refine lv_icmp_ne (tgt := 185) hx hb dX9_whyNotThing_144 (by decide) (fun _ => ?_) (fun c_ => absurd c_ (by decide))
  refine lv_iload_n hx hb dX9_whyNotThing_185 rfl (lv_at hl 1 rfl) ?_
  refine lv_bipush (v := 68) hx hb dX9_whyNotThing_186 (by decide) ?_
  refine lv_icmp_ne (tgt := 246) hx hb dX9_whyNotThing_188 (by decide) (fun _ => ?_) (fun c_ => absurd c_ (by decide))
  refine lv_iload_n hx hb dX9_whyNotThing_246 rfl (lv_at hl 1 rfl) ?_
  refine lv_bipush (v := 70) hx hb dX9_whyNotThing_247 (by decide) ?_
  refine lv_icmp_eq (tgt := 258) hx hb dX9_whyNotThing_249 (by decide) (fun c_ => absurd c_ (by decide)) (fun _ => ?_)
  refine lv_iload_n hx hb dX9_whyNotThing_252 rfl (lv_at hl 1 rfl) ?_
  refine lv_bipush (v := 71) hx hb dX9_whyNotThing_253 (by decide) ?_
  refine lv_icmp_ne (tgt := 298) hx hb dX9_whyNotThing_255 (by decide) (fun _ => ?_) (fun c_ => absurd c_ (by decide))
  refine lv_iconst (v := 0) hx hb dX9_whyNotThing_298 (by decide) ?_
  exact r_iret hC hr hlk hw () rfl rfl (Nat.le_of_ble_eq_true rfl) (Nat.le_of_ble_eq_true rfl) dX9_whyNotThing_299

