theorem c_X6_isOf (l : Launch) {D : va_G} {q : Nat → ClassId} (w : wT) (sz : Nat) (i : Nat) {x1 x2 x3 x4 : Value} {kd pl tg : Int32} {wt : Int64} (k : Int32) (hk17 : vp_in k 17) (hk : vp_in kd 16) (hl_i : w.2.1 i) (hc_i : w.2.2 i = .inr (6, [.int kd, .int pl, x1, x2, x3, .int tg, .long wt, x4])) : Met l yX6_isOf wsX6_isOf (rmz 0 0) (va_Pc [.ref (w.1 i), .int k] (rPre D q w sz)) (va_Qi (fun (r : Int32) (u : Unit) => r = if pOf kd k then 1 else 0) (fun (u : Unit) tt => rPo D (rA w sz) w tt) (rA w sz)) 0 0 (rA w sz) := by
  obtain ⟨j, hj, rfl⟩ := vp_in_of hk17 (by decide)
  match j, hj with
  | 0, _ => exact c_X6_isOf_0 l w sz i hk hl_i hc_i
  | 1, _ => exact c_X6_isOf_1 l w sz i hk hl_i hc_i
  | 2, _ => exact c_X6_isOf_2 l w sz i hk hl_i hc_i
  | 3, _ => exact c_X6_isOf_3 l w sz i hk hl_i hc_i
  | 4, _ => exact c_X6_isOf_4 l w sz i hk hl_i hc_i
  | 5, _ => exact c_X6_isOf_5 l w sz i hk hl_i hc_i
  | 6, _ => exact c_X6_isOf_6 l w sz i hk hl_i hc_i
  | 7, _ => exact c_X6_isOf_7 l w sz i hk hl_i hc_i
  | 8, _ => exact c_X6_isOf_8 l w sz i hk hl_i hc_i
  | 9, _ => exact c_X6_isOf_9 l w sz i hk hl_i hc_i
  | 10, _ => exact c_X6_isOf_10 l w sz i hk hl_i hc_i
  | 11, _ => exact c_X6_isOf_11 l w sz i hk hl_i hc_i
  | 12, _ => exact c_X6_isOf_12 l w sz i hk hl_i hc_i
  | 13, _ => exact c_X6_isOf_13 l w sz i hk hl_i hc_i
  | 14, _ => exact c_X6_isOf_14 l w sz i hk hl_i hc_i
  | 15, _ => exact c_X6_isOf_15 l w sz i hk hl_i hc_i
  | 16, _ => exact c_X6_isOf_16 l w sz i hk hl_i hc_i
  | j + 17, hj => exact absurd hj (by omega)
theorem rf_inj {x y : Int32} (hx : vp_in (x - 1) 60) (hy : vp_in (y - 1) 60) (h : aN (x - 1) = aN (y - 1)) : x = y := by
  obtain ⟨n, hn, e⟩ := vp_in_of hx (by decide)
  obtain ⟨m, hm, e2⟩ := vp_in_of hy (by decide)
  rw [e, e2, show aN (nI n) = n from nI_clamp (by omega), show aN (nI m) = m from nI_clamp (by omega)] at h
  subst h
  have h3 : x - 1 = y - 1 := e.trans e2.symm
  have h4 : x - 1 + 1 = y - 1 + 1 := by rw [h3]
  simpa using h4
set_option maxHeartbeats 4000000 in
set_option maxRecDepth 100000 in
theorem c_X7_countPlacesN (l : Launch) {D : va_G} {q : Nat → ClassId} {ad : Nat → Nat} {κ : KS} {τ : TAU} (sz : Nat) (ρ : Nat) (xa xb xc hd th : Int32) (hst : stepAt q ad κ τ ρ 38 xa xb xc) (hs : okStep 38 xa xb xc)(hX : WFx κ) (c0 : (sA κ 3 (aN xb)) = 0) : Met l yX7_countPlaces wsX7_countPlaces (rmz 1 22) (va_Pc [.ref (ad 5), .ref (ad ρ), .null] (rPre D q (wX q ad κ τ) sz)) (va_Qi (fun (r : Int32) (u : KS) => (r, u) = doR κ hd th 38 xa xb xc) (fun (u : KS) tt => rPo D (rA (wX q ad κ τ) sz) (wX q ad u τ) tt) (rA (wX q ad κ τ) sz)) 0 0 (rA (wX q ad κ τ) sz) := by
  have hi0 : vp_in xa 8 := hs.1
  have hi1 : vp_in xb 8 := hs.2.1
  refine r_start (cc := cX7_countPlaces) (maxL := 3) (ret := (some .int)) (by decide) rfl (Nat.le_of_ble_eq_true rfl) ?_
  intro p e s m below meth c ls hC hr hlk hnm hsz hw hl
  have hx := hC.1
  have hb := hC.2.1
  have hl : lv_has ls 3 [(0, .ref (ad 5)), (1, .ref (ad ρ)), (2, .null)] := hl
  refine lv_aload_nN hx hb dX7_countPlaces_0 rfl (lv_at hl 2 rfl) ?_
  refine lv_ifnonnullN hx hb dX7_countPlaces_1 ?_
  refine lv_iconst (v := 1) hx hb dX7_countPlaces_4 (by decide) ?_
  exact r_iret hC hr hlk hw κ rfl (doRf (κ := κ) (hd := hd) (th := th) (k := 38) (a := xa) (b := xb) (c := xc) (if_pos c0) (by decide)).symm (Nat.le_of_ble_eq_true rfl) (Nat.le_of_ble_eq_true rfl) dX7_countPlaces_5

set_option maxHeartbeats 4000000 in
set_option maxRecDepth 100000 in
theorem c_X7_countPlaces (l : Launch) {D : va_G} {q : Nat → ClassId} {ad : Nat → Nat} {κ : KS} {τ : TAU} (sz : Nat) (ρ : Nat) (xa xb xc hd th : Int32) (hst : stepAt q ad κ τ ρ 38 xa xb xc) (hs : okStep 38 xa xb xc)(hX : WFx κ) (c0 : ¬ (sA κ 3 (aN xb)) = 0) : Met l yX7_countPlaces wsX7_countPlaces (rmz 1 22) (va_Pc [.ref (ad 5), .ref (ad ρ), .ref (ad (100 + 4 * (aN ((sA κ 3 (aN xb)) - 1))))] (rPre D q (wX q ad κ τ) sz)) (va_Qi (fun (r : Int32) (u : KS) => (r, u) = doR κ hd th 38 xa xb xc) (fun (u : KS) tt => rPo D (rA (wX q ad κ τ) sz) (wX q ad u τ) tt) (rA (wX q ad κ τ) sz)) 0 0 (rA (wX q ad κ τ) sz) := by
  have hi0 : vp_in xa 8 := hs.1
  have hi1 : vp_in xb 8 := hs.2.1
  have hB_b := hX.2.1 xb (by assumption) c0
  have h6_b : (aN ((sA κ 3 (aN xb)) - 1)) < 60 := Nat.lt_of_lt_of_le hB_b.2 hX.1
  have hl_b : (wX q ad κ τ).2.1 (100 + 4 * (aN ((sA κ 3 (aN xb)) - 1))) := thl hB_b.2
  have hc_b : (wX q ad κ τ).2.2 (100 + 4 * (aN ((sA κ 3 (aN xb)) - 1))) = .inr (6, fsT ad κ (aN ((sA κ 3 (aN xb)) - 1))) := thc h6_b
  have hk_b := hX.2.2.1 _ hB_b.2
  refine r_start (cc := cX7_countPlaces) (maxL := 3) (ret := (some .int)) (by decide) rfl (Nat.le_of_ble_eq_true rfl) ?_
  intro p e s m below meth c ls hC hr hlk hnm hsz hw hl
  have hx := hC.1
  have hb := hC.2.1
  have hl : lv_has ls 3 [(0, .ref (ad 5)), (1, .ref (ad ρ)), (2, .ref (ad (100 + 4 * (aN ((sA κ 3 (aN xb)) - 1)))))] := hl
  refine lv_aload_n hx hb dX7_countPlaces_0 rfl (lv_at hl 2 rfl) ?_
  refine lv_ifnonnull (tgt := 6) hx hb dX7_countPlaces_1 (by decide) ?_
  refine lv_aload_n hx hb dX7_countPlaces_6 rfl (lv_at hl 2 rfl) ?_
  refine r_ki hw (r_runV (rest := []) hC hw (100 + 4 * (aN ((sA κ 3 (aN xb)) - 1))) (c_X6_isRow l _ _ (100 + 4 * (aN ((sA κ 3 (aN xb)) - 1))) hl_b hc_b) rk6 hl_b hc_b 0 gX7_countPlaces_X6_isRow rfl rfl rfl (by decide +kernel) ⟨Nat.le_of_ble_eq_true rfl, Nat.le_of_ble_eq_true rfl⟩ rfl hl.1 rfl (Nat.le_of_ble_eq_true rfl) dX7_countPlaces_7 ⟨Nat.le_of_ble_eq_true rfl, Nat.le_of_ble_eq_true rfl⟩) (fun r_2 u_3 H locs h_1 hw => ?_)
  by_cases c_4 : pRow (sA κ 4 (aN ((sA κ 3 (aN xb)) - 1)))
  · rw [if_pos c_4] at h_1
    subst h_1
    refine lv_if_ne (tgt := 15) hx hb dX7_countPlaces_10 (by decide) (fun _ => ?_) (fun c_ => absurd c_ (by decide))
    refine lv_aload_n hx hb dX7_countPlaces_15 rfl (lv_at hl 0 rfl) ?_
    refine r_get hC hw rk7 in_X7_countPlaces_7 5 (wXl 5 (by decide)) wXc5 0 (by decide) lk_X7_countPlaces_9 (v := .ref (ad 2)) rfl dX7_countPlaces_16 ?_
    refine lv_aload_n hx hb dX7_countPlaces_19 rfl (lv_at hl 1 rfl) ?_
    refine r_get hC hw rk5 in_X7_countPlaces_5 ρ hst.1 hst.2 1 (by decide) lk_X7_countPlaces_69 (v := .int xa) rfl dX7_countPlaces_20 ?_
    refine lv_aload_n hx hb dX7_countPlaces_23 rfl (lv_at hl 2 rfl) ?_
    refine r_get hC hw rk6 in_X7_countPlaces_6 (100 + 4 * (aN ((sA κ 3 (aN xb)) - 1))) hl_b hc_b 1 (by decide) lk_X7_countPlaces_116 (v := .int (sA κ 5 (aN ((sA κ 3 (aN xb)) - 1)))) rfl dX7_countPlaces_24 ?_
    refine r_kv hw (r_runV (rest := []) hC hw 2 (c_X3_setWord l _ _ 2 8 xa (sA κ 5 (aN ((sA κ 3 (aN xb)) - 1))) (by assumption) (wXl 2 (by decide)) wXc2 (wXl 8 (by decide)) wXc8) rk3 (wXl 2 (by decide)) wXc2 2 gX7_countPlaces_X3_setWord rfl rfl rfl (by decide +kernel) ⟨Nat.le_of_ble_eq_true rfl, Nat.le_of_ble_eq_true rfl⟩ rfl hl.1 rfl (Nat.le_of_ble_eq_true rfl) dX7_countPlaces_27 ⟨Nat.le_of_ble_eq_true rfl, Nat.le_of_ble_eq_true rfl⟩) (fun u_7 H locs h_5 hw => ?_)
    replace hw := xS_words hw
    refine lv_iconst (v := 0) hx hb dX7_countPlaces_30 (by decide) ?_
    exact r_iret hC hr hlk hw (uA κ 2 (aN xa) (sA κ 5 (aN ((sA κ 3 (aN xb)) - 1)))) rfl (doR0 (κ := κ) (hd := hd) (th := th) (k := 38) (a := xa) (b := xb) (c := xc) ((if_neg c0).trans (if_pos c_4))).symm (Nat.le_of_ble_eq_true rfl) (Nat.le_of_ble_eq_true rfl) dX7_countPlaces_31
  · rw [if_neg c_4] at h_1
    subst h_1
    refine lv_if_ne (tgt := 15) hx hb dX7_countPlaces_10 (by decide) (fun c_ => absurd (by decide) c_) (fun _ => ?_)
    refine lv_iconst (v := 4) hx hb dX7_countPlaces_13 (by decide) ?_
    exact r_iret hC hr hlk hw κ rfl (doRf (κ := κ) (hd := hd) (th := th) (k := 38) (a := xa) (b := xb) (c := xc) ((if_neg c0).trans (if_neg c_4)) (by decide)).symm (Nat.le_of_ble_eq_true rfl) (Nat.le_of_ble_eq_true rfl) dX7_countPlaces_14

set_option maxHeartbeats 4000000 in
set_option maxRecDepth 100000 in
theorem c_X7_lookAtThing_34 (l : Launch) {D : va_G} {q : Nat → ClassId} {ad : Nat → Nat} {κ : KS} {τ : TAU} (sz : Nat) (ρ : Nat) (xa xb xc hd th : Int32) (hst : stepAt q ad κ τ ρ 34 xa xb xc) (hs : okStep 34 xa xb xc)(hX : WFx κ) (hN : nnOp κ 34 xa xb xc) : Met l yX7_lookAtThing wsX7_lookAtThing (rmz 2 44) (va_Pc [.ref (ad 5), .ref (ad ρ)] (rPre D q (wX q ad κ τ) sz)) (va_Qi (fun (r : Int32) (u : KS) => (r, u) = doR κ hd th 34 xa xb xc) (fun (u : KS) tt => rPo D (rA (wX q ad κ τ) sz) (wX q ad u τ) tt) (rA (wX q ad κ τ) sz)) 0 0 (rA (wX q ad κ τ) sz) := by
  have hi0 : vp_in xa 8 := hs.1
  have hi1 : vp_in xb 8 := hs.2.1
  refine r_start (cc := cX7_lookAtThing) (maxL := 3) (ret := (some .int)) (by decide) rfl (Nat.le_of_ble_eq_true rfl) ?_
  intro p e s m below meth c ls hC hr hlk hnm hsz hw hl
  have hx := hC.1
  have hb := hC.2.1
  have hl : lv_has ls 3 [(0, .ref (ad 5)), (1, .ref (ad ρ))] := hl
  refine lv_aload_n hx hb dX7_lookAtThing_0 rfl (lv_at hl 0 rfl) ?_
  refine r_get hC hw rk7 in_X7_lookAtThing_7 5 (wXl 5 (by decide)) wXc5 0 (by decide) lk_X7_lookAtThing_9 (v := .ref (ad 2)) rfl dX7_lookAtThing_1 ?_
  refine lv_aload_n hx hb dX7_lookAtThing_4 rfl (lv_at hl 1 rfl) ?_
  refine r_get hC hw rk5 in_X7_lookAtThing_5 ρ hst.1 hst.2 2 (by decide) lk_X7_lookAtThing_74 (v := .int xb) rfl dX7_lookAtThing_5 ?_
  refine r_kq hw (r_runV (rest := []) hC hw 2 (c_X3_getThing l _ _ 2 12 xb (wXl 2 (by decide)) wXc2 (wXl 12 (by decide)) wXc12) rk3 (wXl 2 (by decide)) wXc2 1 gX7_lookAtThing_X3_getThing rfl rfl rfl (by decide +kernel) ⟨Nat.le_of_ble_eq_true rfl, Nat.le_of_ble_eq_true rfl⟩ rfl hl.1 rfl (Nat.le_of_ble_eq_true rfl) dX7_lookAtThing_8 ⟨Nat.le_of_ble_eq_true rfl, Nat.le_of_ble_eq_true rfl⟩) (fun r_2 u_3 H locs h_1 hw => ?_)
  subst h_1
  by_cases n_4 : (sA κ 3 (aN xb)) = 0
  · refine r_topv (y := .null) (by rw [gN_in (by assumption) (by decide)]; show va_rf ((rT (sA κ 3 (aN xb))).map ad) = _; rw [rT0 n_4]; rfl) ?_
    refine lv_astore_nN (lv' := [(2, .null), (0, .ref (ad 5)), (1, .ref (ad ρ))]) hx hb dX7_lookAtThing_11 rfl hl (by decide) rfl (fun ls hl => ?_)
    refine lv_aload_n hx hb dX7_lookAtThing_12 rfl (lv_at hl 2 rfl) ?_
    refine r_get hC hw rk5 in_X7_lookAtThing_5 ρ hst.1 hst.2 0 (by decide) lk_X7_lookAtThing_15 (v := .int 34) rfl dX7_lookAtThing_13 ?_
    refine lv_tableIn (tgt := 48) hx hb dX7_lookAtThing_16 (by decide) (by decide) (by rfl) (by decide) ?_
    refine lv_aload_n hx hb dX7_lookAtThing_48 rfl (lv_at hl 1 rfl) ?_
    refine r_get hC hw rk7 in_X7_lookAtThing_7 5 (wXl 5 (by decide)) wXc5 0 (by decide) lk_X7_lookAtThing_9 (v := .ref (ad 2)) rfl dX7_lookAtThing_49 ?_
    refine lv_aload_n hx hb dX7_lookAtThing_52 rfl (lv_at hl 2 rfl) ?_
    refine r_get hC hw rk5 in_X7_lookAtThing_5 ρ hst.1 hst.2 1 (by decide) lk_X7_lookAtThing_69 (v := .int xa) rfl dX7_lookAtThing_53 ?_
    refine lv_aload_nN hx hb dX7_lookAtThing_56 rfl (lv_at hl 0 rfl) ?_
    refine r_kv hw (r_runV (rest := []) hC hw 2 (c_X3_setThingN l _ _ 2 12 xa (by assumption) (wXl 2 (by decide)) wXc2 (wXl 12 (by decide)) wXc12) rk3 (wXl 2 (by decide)) wXc2 2 gX7_lookAtThing_X3_setThing rfl rfl rfl (by decide +kernel) ⟨Nat.le_of_ble_eq_true rfl, Nat.le_of_ble_eq_true rfl⟩ rfl hl.1 rfl (Nat.le_of_ble_eq_true rfl) dX7_lookAtThing_57 ⟨Nat.le_of_ble_eq_true rfl, Nat.le_of_ble_eq_true rfl⟩) (fun u_7 H locs h_5 hw => ?_)
    replace hw := xS_refs (v := sA κ 3 (aN xb)) (by rw [rT0 n_4]; rfl) hw
    refine lv_goto (tgt := 153) hx hb dX7_lookAtThing_60 (by decide) ?_
    refine lv_iconst (v := 0) hx hb dX7_lookAtThing_153 (by decide) ?_
    exact r_iret hC hr hlk hw (uA κ 3 (aN xa) (sA κ 3 (aN xb))) rfl (doR0 (κ := κ) (hd := hd) (th := th) (k := 34) (a := xa) (b := xb) (c := xc) rfl).symm (Nat.le_of_ble_eq_true rfl) (Nat.le_of_ble_eq_true rfl) dX7_lookAtThing_154
  · refine r_topv (y := .ref (ad (100 + 4 * (aN ((sA κ 3 (aN xb)) - 1))))) (by rw [gN_in (by assumption) (by decide)]; show va_rf ((rT (sA κ 3 (aN xb))).map ad) = _; rw [rT1 n_4]; rfl) ?_
    have hB_b := hX.2.1 xb (by assumption) n_4
    have h6_b : (aN ((sA κ 3 (aN xb)) - 1)) < 60 := Nat.lt_of_lt_of_le hB_b.2 hX.1
    have hl_b : (wX q ad κ τ).2.1 (100 + 4 * (aN ((sA κ 3 (aN xb)) - 1))) := thl hB_b.2
    have hc_b : (wX q ad κ τ).2.2 (100 + 4 * (aN ((sA κ 3 (aN xb)) - 1))) = .inr (6, fsT ad κ (aN ((sA κ 3 (aN xb)) - 1))) := thc h6_b
    have hk_b := hX.2.2.1 _ hB_b.2
    refine lv_astore_n (lv' := [(2, .ref (ad (100 + 4 * (aN ((sA κ 3 (aN xb)) - 1))))), (0, .ref (ad 5)), (1, .ref (ad ρ))]) hx hb dX7_lookAtThing_11 rfl hl (by decide) rfl (fun ls hl => ?_)
    refine lv_aload_n hx hb dX7_lookAtThing_12 rfl (lv_at hl 2 rfl) ?_
    refine r_get hC hw rk5 in_X7_lookAtThing_5 ρ hst.1 hst.2 0 (by decide) lk_X7_lookAtThing_15 (v := .int 34) rfl dX7_lookAtThing_13 ?_
    refine lv_tableIn (tgt := 48) hx hb dX7_lookAtThing_16 (by decide) (by decide) (by rfl) (by decide) ?_
    refine lv_aload_n hx hb dX7_lookAtThing_48 rfl (lv_at hl 1 rfl) ?_
    refine r_get hC hw rk7 in_X7_lookAtThing_7 5 (wXl 5 (by decide)) wXc5 0 (by decide) lk_X7_lookAtThing_9 (v := .ref (ad 2)) rfl dX7_lookAtThing_49 ?_
    refine lv_aload_n hx hb dX7_lookAtThing_52 rfl (lv_at hl 2 rfl) ?_
    refine r_get hC hw rk5 in_X7_lookAtThing_5 ρ hst.1 hst.2 1 (by decide) lk_X7_lookAtThing_69 (v := .int xa) rfl dX7_lookAtThing_53 ?_
    refine lv_aload_n hx hb dX7_lookAtThing_56 rfl (lv_at hl 0 rfl) ?_
    refine r_kv hw (r_runV (rest := []) hC hw 2 (c_X3_setThing l _ _ 2 (100 + 4 * (aN ((sA κ 3 (aN xb)) - 1))) 12 xa (by assumption) (wXl 2 (by decide)) wXc2 hl_b hc_b (wXl 12 (by decide)) wXc12) rk3 (wXl 2 (by decide)) wXc2 2 gX7_lookAtThing_X3_setThing rfl rfl rfl (by decide +kernel) ⟨Nat.le_of_ble_eq_true rfl, Nat.le_of_ble_eq_true rfl⟩ rfl hl.1 rfl (Nat.le_of_ble_eq_true rfl) dX7_lookAtThing_57 ⟨Nat.le_of_ble_eq_true rfl, Nat.le_of_ble_eq_true rfl⟩) (fun u_10 H locs h_8 hw => ?_)
    replace hw := xS_refs (v := sA κ 3 (aN xb)) (by rw [rT1 n_4]; rfl) hw
    refine lv_goto (tgt := 153) hx hb dX7_lookAtThing_60 (by decide) ?_
    refine lv_iconst (v := 0) hx hb dX7_lookAtThing_153 (by decide) ?_
    exact r_iret hC hr hlk hw (uA κ 3 (aN xa) (sA κ 3 (aN xb))) rfl (doR0 (κ := κ) (hd := hd) (th := th) (k := 34) (a := xa) (b := xb) (c := xc) rfl).symm (Nat.le_of_ble_eq_true rfl) (Nat.le_of_ble_eq_true rfl) dX7_lookAtThing_154

set_option maxHeartbeats 4000000 in
set_option maxRecDepth 100000 in
theorem c_X7_lookAtThing_35 (l : Launch) {D : va_G} {q : Nat → ClassId} {ad : Nat → Nat} {κ : KS} {τ : TAU} (sz : Nat) (ρ : Nat) (xa xb xc hd th : Int32) (hst : stepAt q ad κ τ ρ 35 xa xb xc) (hs : okStep 35 xa xb xc)(hX : WFx κ) (hN : nnOp κ 35 xa xb xc) : Met l yX7_lookAtThing wsX7_lookAtThing (rmz 2 44) (va_Pc [.ref (ad 5), .ref (ad ρ)] (rPre D q (wX q ad κ τ) sz)) (va_Qi (fun (r : Int32) (u : KS) => (r, u) = doR κ hd th 35 xa xb xc) (fun (u : KS) tt => rPo D (rA (wX q ad κ τ) sz) (wX q ad u τ) tt) (rA (wX q ad κ τ) sz)) 0 0 (rA (wX q ad κ τ) sz) := by
  have hi0 : vp_in xa 8 := hs.1
  refine r_start (cc := cX7_lookAtThing) (maxL := 3) (ret := (some .int)) (by decide) rfl (Nat.le_of_ble_eq_true rfl) ?_
  intro p e s m below meth c ls hC hr hlk hnm hsz hw hl
  have hx := hC.1
  have hb := hC.2.1
  have hl : lv_has ls 3 [(0, .ref (ad 5)), (1, .ref (ad ρ))] := hl
  refine lv_aload_n hx hb dX7_lookAtThing_0 rfl (lv_at hl 0 rfl) ?_
  refine r_get hC hw rk7 in_X7_lookAtThing_7 5 (wXl 5 (by decide)) wXc5 0 (by decide) lk_X7_lookAtThing_9 (v := .ref (ad 2)) rfl dX7_lookAtThing_1 ?_
  refine lv_aload_n hx hb dX7_lookAtThing_4 rfl (lv_at hl 1 rfl) ?_
  refine r_get hC hw rk5 in_X7_lookAtThing_5 ρ hst.1 hst.2 2 (by decide) lk_X7_lookAtThing_74 (v := .int xb) rfl dX7_lookAtThing_5 ?_
  refine r_kq hw (r_runV (rest := []) hC hw 2 (c_X3_getThing l _ _ 2 12 xb (wXl 2 (by decide)) wXc2 (wXl 12 (by decide)) wXc12) rk3 (wXl 2 (by decide)) wXc2 1 gX7_lookAtThing_X3_getThing rfl rfl rfl (by decide +kernel) ⟨Nat.le_of_ble_eq_true rfl, Nat.le_of_ble_eq_true rfl⟩ rfl hl.1 rfl (Nat.le_of_ble_eq_true rfl) dX7_lookAtThing_8 ⟨Nat.le_of_ble_eq_true rfl, Nat.le_of_ble_eq_true rfl⟩) (fun r_2 u_3 H locs h_1 hw => ?_)
  subst h_1
  refine r_astore_nQ (lv' := [(2, va_rf (gN 8 (fun j => (rT (sA κ 3 j)).map ad) none xb)), (0, .ref (ad 5)), (1, .ref (ad ρ))]) hx hb dX7_lookAtThing_11 rfl hl (by decide) rfl (fun ls hl => ?_)
  refine lv_aload_n hx hb dX7_lookAtThing_12 rfl (lv_at hl 2 rfl) ?_
  refine r_get hC hw rk5 in_X7_lookAtThing_5 ρ hst.1 hst.2 0 (by decide) lk_X7_lookAtThing_15 (v := .int 35) rfl dX7_lookAtThing_13 ?_
  refine lv_tableIn (tgt := 63) hx hb dX7_lookAtThing_16 (by decide) (by decide) (by rfl) (by decide) ?_
  refine lv_aload_n hx hb dX7_lookAtThing_63 rfl (lv_at hl 1 rfl) ?_
  refine r_get hC hw rk7 in_X7_lookAtThing_7 5 (wXl 5 (by decide)) wXc5 0 (by decide) lk_X7_lookAtThing_9 (v := .ref (ad 2)) rfl dX7_lookAtThing_64 ?_
  refine lv_aload_n hx hb dX7_lookAtThing_67 rfl (lv_at hl 2 rfl) ?_
  refine r_get hC hw rk5 in_X7_lookAtThing_5 ρ hst.1 hst.2 1 (by decide) lk_X7_lookAtThing_69 (v := .int xa) rfl dX7_lookAtThing_68 ?_
  refine lv_null hx hb dX7_lookAtThing_71 ?_
  refine r_kv hw (r_runV (rest := []) hC hw 2 (c_X3_setThingN l _ _ 2 12 xa (by assumption) (wXl 2 (by decide)) wXc2 (wXl 12 (by decide)) wXc12) rk3 (wXl 2 (by decide)) wXc2 2 gX7_lookAtThing_X3_setThing rfl rfl rfl (by decide +kernel) ⟨Nat.le_of_ble_eq_true rfl, Nat.le_of_ble_eq_true rfl⟩ rfl hl.1 rfl (Nat.le_of_ble_eq_true rfl) dX7_lookAtThing_72 ⟨Nat.le_of_ble_eq_true rfl, Nat.le_of_ble_eq_true rfl⟩) (fun u_6 H locs h_4 hw => ?_)
  replace hw := xS_refs (v := 0) (by rw [rT0 rfl]; rfl) hw
  refine lv_goto (tgt := 153) hx hb dX7_lookAtThing_75 (by decide) ?_
  refine lv_iconst (v := 0) hx hb dX7_lookAtThing_153 (by decide) ?_
  exact r_iret hC hr hlk hw (uA κ 3 (aN xa) 0) rfl (doR0 (κ := κ) (hd := hd) (th := th) (k := 35) (a := xa) (b := xb) (c := xc) rfl).symm (Nat.le_of_ble_eq_true rfl) (Nat.le_of_ble_eq_true rfl) dX7_lookAtThing_154

set_option maxHeartbeats 4000000 in
set_option maxRecDepth 100000 in
theorem c_X7_lookAtThing_38 (l : Launch) {D : va_G} {q : Nat → ClassId} {ad : Nat → Nat} {κ : KS} {τ : TAU} (sz : Nat) (ρ : Nat) (xa xb xc hd th : Int32) (hst : stepAt q ad κ τ ρ 38 xa xb xc) (hs : okStep 38 xa xb xc)(hX : WFx κ) (hN : nnOp κ 38 xa xb xc) : Met l yX7_lookAtThing wsX7_lookAtThing (rmz 2 44) (va_Pc [.ref (ad 5), .ref (ad ρ)] (rPre D q (wX q ad κ τ) sz)) (va_Qi (fun (r : Int32) (u : KS) => (r, u) = doR κ hd th 38 xa xb xc) (fun (u : KS) tt => rPo D (rA (wX q ad κ τ) sz) (wX q ad u τ) tt) (rA (wX q ad κ τ) sz)) 0 0 (rA (wX q ad κ τ) sz) := by
  have hi0 : vp_in xa 8 := hs.1
  have hi1 : vp_in xb 8 := hs.2.1
  refine r_start (cc := cX7_lookAtThing) (maxL := 3) (ret := (some .int)) (by decide) rfl (Nat.le_of_ble_eq_true rfl) ?_
  intro p e s m below meth c ls hC hr hlk hnm hsz hw hl
  have hx := hC.1
  have hb := hC.2.1
  have hl : lv_has ls 3 [(0, .ref (ad 5)), (1, .ref (ad ρ))] := hl
  refine lv_aload_n hx hb dX7_lookAtThing_0 rfl (lv_at hl 0 rfl) ?_
  refine r_get hC hw rk7 in_X7_lookAtThing_7 5 (wXl 5 (by decide)) wXc5 0 (by decide) lk_X7_lookAtThing_9 (v := .ref (ad 2)) rfl dX7_lookAtThing_1 ?_
  refine lv_aload_n hx hb dX7_lookAtThing_4 rfl (lv_at hl 1 rfl) ?_
  refine r_get hC hw rk5 in_X7_lookAtThing_5 ρ hst.1 hst.2 2 (by decide) lk_X7_lookAtThing_74 (v := .int xb) rfl dX7_lookAtThing_5 ?_
  refine r_kq hw (r_runV (rest := []) hC hw 2 (c_X3_getThing l _ _ 2 12 xb (wXl 2 (by decide)) wXc2 (wXl 12 (by decide)) wXc12) rk3 (wXl 2 (by decide)) wXc2 1 gX7_lookAtThing_X3_getThing rfl rfl rfl (by decide +kernel) ⟨Nat.le_of_ble_eq_true rfl, Nat.le_of_ble_eq_true rfl⟩ rfl hl.1 rfl (Nat.le_of_ble_eq_true rfl) dX7_lookAtThing_8 ⟨Nat.le_of_ble_eq_true rfl, Nat.le_of_ble_eq_true rfl⟩) (fun r_2 u_3 H locs h_1 hw => ?_)
  subst h_1
  by_cases n_4 : (sA κ 3 (aN xb)) = 0
  · refine r_topv (y := .null) (by rw [gN_in (by assumption) (by decide)]; show va_rf ((rT (sA κ 3 (aN xb))).map ad) = _; rw [rT0 n_4]; rfl) ?_
    refine lv_astore_nN (lv' := [(2, .null), (0, .ref (ad 5)), (1, .ref (ad ρ))]) hx hb dX7_lookAtThing_11 rfl hl (by decide) rfl (fun ls hl => ?_)
    refine lv_aload_n hx hb dX7_lookAtThing_12 rfl (lv_at hl 2 rfl) ?_
    refine r_get hC hw rk5 in_X7_lookAtThing_5 ρ hst.1 hst.2 0 (by decide) lk_X7_lookAtThing_15 (v := .int 38) rfl dX7_lookAtThing_13 ?_
    refine lv_tableOut (tgt := 146) hx hb dX7_lookAtThing_16 (by decide) (by decide) ?_
    refine lv_aload_n hx hb dX7_lookAtThing_146 rfl (lv_at hl 1 rfl) ?_
    refine lv_aload_n hx hb dX7_lookAtThing_147 rfl (lv_at hl 2 rfl) ?_
    refine lv_aload_nN hx hb dX7_lookAtThing_148 rfl (lv_at hl 0 rfl) ?_
    refine r_ki hw (r_runV (rest := []) hC hw 5 (c_X7_countPlacesN l _ ρ xa xb xc hd th hst hs hX n_4) rk7 (wXl 5 (by decide)) wXc5 2 gX7_lookAtThing_X7_countPlaces rfl rfl rfl (by decide +kernel) ⟨Nat.le_of_ble_eq_true rfl, Nat.le_of_ble_eq_true rfl⟩ rfl hl.1 rfl (Nat.le_of_ble_eq_true rfl) dX7_lookAtThing_149 ⟨Nat.le_of_ble_eq_true rfl, Nat.le_of_ble_eq_true rfl⟩) (fun r_6 u_7 H locs h_5 hw => ?_)
    exact r_iret hC hr hlk hw u_7 rfl h_5 (Nat.le_of_ble_eq_true rfl) (Nat.le_of_ble_eq_true rfl) dX7_lookAtThing_152
  · refine r_topv (y := .ref (ad (100 + 4 * (aN ((sA κ 3 (aN xb)) - 1))))) (by rw [gN_in (by assumption) (by decide)]; show va_rf ((rT (sA κ 3 (aN xb))).map ad) = _; rw [rT1 n_4]; rfl) ?_
    have hB_b := hX.2.1 xb (by assumption) n_4
    have h6_b : (aN ((sA κ 3 (aN xb)) - 1)) < 60 := Nat.lt_of_lt_of_le hB_b.2 hX.1
    have hl_b : (wX q ad κ τ).2.1 (100 + 4 * (aN ((sA κ 3 (aN xb)) - 1))) := thl hB_b.2
    have hc_b : (wX q ad κ τ).2.2 (100 + 4 * (aN ((sA κ 3 (aN xb)) - 1))) = .inr (6, fsT ad κ (aN ((sA κ 3 (aN xb)) - 1))) := thc h6_b
    have hk_b := hX.2.2.1 _ hB_b.2
    refine lv_astore_n (lv' := [(2, .ref (ad (100 + 4 * (aN ((sA κ 3 (aN xb)) - 1))))), (0, .ref (ad 5)), (1, .ref (ad ρ))]) hx hb dX7_lookAtThing_11 rfl hl (by decide) rfl (fun ls hl => ?_)
    refine lv_aload_n hx hb dX7_lookAtThing_12 rfl (lv_at hl 2 rfl) ?_
    refine r_get hC hw rk5 in_X7_lookAtThing_5 ρ hst.1 hst.2 0 (by decide) lk_X7_lookAtThing_15 (v := .int 38) rfl dX7_lookAtThing_13 ?_
    refine lv_tableOut (tgt := 146) hx hb dX7_lookAtThing_16 (by decide) (by decide) ?_
    refine lv_aload_n hx hb dX7_lookAtThing_146 rfl (lv_at hl 1 rfl) ?_
    refine lv_aload_n hx hb dX7_lookAtThing_147 rfl (lv_at hl 2 rfl) ?_
    refine lv_aload_n hx hb dX7_lookAtThing_148 rfl (lv_at hl 0 rfl) ?_
    refine r_ki hw (r_runV (rest := []) hC hw 5 (c_X7_countPlaces l _ ρ xa xb xc hd th hst hs hX n_4) rk7 (wXl 5 (by decide)) wXc5 2 gX7_lookAtThing_X7_countPlaces rfl rfl rfl (by decide +kernel) ⟨Nat.le_of_ble_eq_true rfl, Nat.le_of_ble_eq_true rfl⟩ rfl hl.1 rfl (Nat.le_of_ble_eq_true rfl) dX7_lookAtThing_149 ⟨Nat.le_of_ble_eq_true rfl, Nat.le_of_ble_eq_true rfl⟩) (fun r_9 u_10 H locs h_8 hw => ?_)
    exact r_iret hC hr hlk hw u_10 rfl h_8 (Nat.le_of_ble_eq_true rfl) (Nat.le_of_ble_eq_true rfl) dX7_lookAtThing_152

set_option maxHeartbeats 4000000 in
set_option maxRecDepth 100000 in
theorem c_X7_lookAtThing_36 (l : Launch) {D : va_G} {q : Nat → ClassId} {ad : Nat → Nat} {κ : KS} {τ : TAU} (sz : Nat) (ρ : Nat) (xa xb xc hd th : Int32) (hst : stepAt q ad κ τ ρ 36 xa xb xc) (hs : okStep 36 xa xb xc)(hX : WFx κ) (hN : nnOp κ 36 xa xb xc) : Met l yX7_lookAtThing wsX7_lookAtThing (rmz 2 44) (va_Pc [.ref (ad 5), .ref (ad ρ)] (rPre D q (wX q ad κ τ) sz)) (va_Qi (fun (r : Int32) (u : KS) => (r, u) = doR κ hd th 36 xa xb xc) (fun (u : KS) tt => rPo D (rA (wX q ad κ τ) sz) (wX q ad u τ) tt) (rA (wX q ad κ τ) sz)) 0 0 (rA (wX q ad κ τ) sz) := by
  have hi0 : vp_in xa 8 := hs.1
  have hi1 : vp_in xb 8 := hs.2.1
  have hi2 : vp_in xc 8 := hs.2.2
  refine r_start (cc := cX7_lookAtThing) (maxL := 3) (ret := (some .int)) (by decide) rfl (Nat.le_of_ble_eq_true rfl) ?_
  intro p e s m below meth c ls hC hr hlk hnm hsz hw hl
  have hx := hC.1
  have hb := hC.2.1
  have hl : lv_has ls 3 [(0, .ref (ad 5)), (1, .ref (ad ρ))] := hl
  refine lv_aload_n hx hb dX7_lookAtThing_0 rfl (lv_at hl 0 rfl) ?_
  refine r_get hC hw rk7 in_X7_lookAtThing_7 5 (wXl 5 (by decide)) wXc5 0 (by decide) lk_X7_lookAtThing_9 (v := .ref (ad 2)) rfl dX7_lookAtThing_1 ?_
  refine lv_aload_n hx hb dX7_lookAtThing_4 rfl (lv_at hl 1 rfl) ?_
  refine r_get hC hw rk5 in_X7_lookAtThing_5 ρ hst.1 hst.2 2 (by decide) lk_X7_lookAtThing_74 (v := .int xb) rfl dX7_lookAtThing_5 ?_
  refine r_kq hw (r_runV (rest := []) hC hw 2 (c_X3_getThing l _ _ 2 12 xb (wXl 2 (by decide)) wXc2 (wXl 12 (by decide)) wXc12) rk3 (wXl 2 (by decide)) wXc2 1 gX7_lookAtThing_X3_getThing rfl rfl rfl (by decide +kernel) ⟨Nat.le_of_ble_eq_true rfl, Nat.le_of_ble_eq_true rfl⟩ rfl hl.1 rfl (Nat.le_of_ble_eq_true rfl) dX7_lookAtThing_8 ⟨Nat.le_of_ble_eq_true rfl, Nat.le_of_ble_eq_true rfl⟩) (fun r_2 u_3 H locs h_1 hw => ?_)
  subst h_1
  by_cases n_4 : (sA κ 3 (aN xb)) = 0
  · refine r_topv (y := .null) (by rw [gN_in (by assumption) (by decide)]; show va_rf ((rT (sA κ 3 (aN xb))).map ad) = _; rw [rT0 n_4]; rfl) ?_
    refine lv_astore_nN (lv' := [(2, .null), (0, .ref (ad 5)), (1, .ref (ad ρ))]) hx hb dX7_lookAtThing_11 rfl hl (by decide) rfl (fun ls hl => ?_)
    refine lv_aload_n hx hb dX7_lookAtThing_12 rfl (lv_at hl 2 rfl) ?_
    refine r_get hC hw rk5 in_X7_lookAtThing_5 ρ hst.1 hst.2 0 (by decide) lk_X7_lookAtThing_15 (v := .int 36) rfl dX7_lookAtThing_13 ?_
    refine lv_tableIn (tgt := 78) hx hb dX7_lookAtThing_16 (by decide) (by decide) (by rfl) (by decide) ?_
    refine lv_aload_n hx hb dX7_lookAtThing_78 rfl (lv_at hl 1 rfl) ?_
    refine r_get hC hw rk7 in_X7_lookAtThing_7 5 (wXl 5 (by decide)) wXc5 0 (by decide) lk_X7_lookAtThing_9 (v := .ref (ad 2)) rfl dX7_lookAtThing_79 ?_
    refine lv_aload_n hx hb dX7_lookAtThing_82 rfl (lv_at hl 2 rfl) ?_
    refine r_get hC hw rk5 in_X7_lookAtThing_5 ρ hst.1 hst.2 1 (by decide) lk_X7_lookAtThing_69 (v := .int xa) rfl dX7_lookAtThing_83 ?_
    refine lv_aload_nN hx hb dX7_lookAtThing_86 rfl (lv_at hl 0 rfl) ?_
    refine lv_aload_n hx hb dX7_lookAtThing_87 rfl (lv_at hl 1 rfl) ?_
    refine r_get hC hw rk7 in_X7_lookAtThing_7 5 (wXl 5 (by decide)) wXc5 0 (by decide) lk_X7_lookAtThing_9 (v := .ref (ad 2)) rfl dX7_lookAtThing_88 ?_
    refine lv_aload_n hx hb dX7_lookAtThing_91 rfl (lv_at hl 2 rfl) ?_
    refine r_get hC hw rk5 in_X7_lookAtThing_5 ρ hst.1 hst.2 3 (by decide) lk_X7_lookAtThing_57 (v := .int xc) rfl dX7_lookAtThing_92 ?_
    refine r_kq hw (r_runV (rest := [.null, .int xa, .ref (ad 2)]) hC hw 2 (c_X3_getThing l _ _ 2 12 xc (wXl 2 (by decide)) wXc2 (wXl 12 (by decide)) wXc12) rk3 (wXl 2 (by decide)) wXc2 1 gX7_lookAtThing_X3_getThing rfl rfl rfl (by decide +kernel) ⟨Nat.le_of_ble_eq_true rfl, Nat.le_of_ble_eq_true rfl⟩ rfl hl.1 rfl (Nat.le_of_ble_eq_true rfl) dX7_lookAtThing_95 ⟨Nat.le_of_ble_eq_true rfl, Nat.le_of_ble_eq_true rfl⟩) (fun r_6 u_7 H locs h_5 hw => ?_)
    subst h_5
    by_cases n_8 : (sA κ 3 (aN xc)) = 0
    · refine r_topv (y := .null) (by rw [gN_in (by assumption) (by decide)]; show va_rf ((rT (sA κ 3 (aN xc))).map ad) = _; rw [rT0 n_8]; rfl) ?_
      refine lv_acmp_ne (rx := none) (ry := none) (tgt := 105) hx hb dX7_lookAtThing_98 (by decide) (fun c_ => absurd rfl c_) (fun _ => ?_)
      have c_10 : (sA κ 3 (aN xb)) = (sA κ 3 (aN xc)) := by rw [n_4, n_8]
      refine lv_iconst (v := 1) hx hb dX7_lookAtThing_101 (by decide) ?_
      refine lv_goto (tgt := 106) hx hb dX7_lookAtThing_102 (by decide) ?_
      refine r_kv hw (r_runV (rest := []) hC hw 2 (c_X3_setWord l _ _ 2 8 xa 1 (by assumption) (wXl 2 (by decide)) wXc2 (wXl 8 (by decide)) wXc8) rk3 (wXl 2 (by decide)) wXc2 2 gX7_lookAtThing_X3_setWord rfl rfl rfl (by decide +kernel) ⟨Nat.le_of_ble_eq_true rfl, Nat.le_of_ble_eq_true rfl⟩ rfl hl.1 rfl (Nat.le_of_ble_eq_true rfl) dX7_lookAtThing_106 ⟨Nat.le_of_ble_eq_true rfl, Nat.le_of_ble_eq_true rfl⟩) (fun u_13 H locs h_11 hw => ?_)
      replace hw := xS_words hw
      refine lv_goto (tgt := 153) hx hb dX7_lookAtThing_109 (by decide) ?_
      refine lv_iconst (v := 0) hx hb dX7_lookAtThing_153 (by decide) ?_
      exact r_iret hC hr hlk hw (uA κ 2 (aN xa) 1) rfl ((congrArg (fun z => ((0 : Int32), uA κ 2 (aN xa) z)) (if_pos c_10).symm).trans (doR0 (κ := κ) (hd := hd) (th := th) (k := 36) (a := xa) (b := xb) (c := xc) rfl).symm) (Nat.le_of_ble_eq_true rfl) (Nat.le_of_ble_eq_true rfl) dX7_lookAtThing_154
    · refine r_topv (y := .ref (ad (100 + 4 * (aN ((sA κ 3 (aN xc)) - 1))))) (by rw [gN_in (by assumption) (by decide)]; show va_rf ((rT (sA κ 3 (aN xc))).map ad) = _; rw [rT1 n_8]; rfl) ?_
      have hB_c := hX.2.1 xc (by assumption) n_8
      have h6_c : (aN ((sA κ 3 (aN xc)) - 1)) < 60 := Nat.lt_of_lt_of_le hB_c.2 hX.1
      have hl_c : (wX q ad κ τ).2.1 (100 + 4 * (aN ((sA κ 3 (aN xc)) - 1))) := thl hB_c.2
      have hc_c : (wX q ad κ τ).2.2 (100 + 4 * (aN ((sA κ 3 (aN xc)) - 1))) = .inr (6, fsT ad κ (aN ((sA κ 3 (aN xc)) - 1))) := thc h6_c
      have hk_c := hX.2.2.1 _ hB_c.2
      refine lv_acmp_ne (rx := none) (ry := some (ad (100 + 4 * (aN ((sA κ 3 (aN xc)) - 1))))) (tgt := 105) hx hb dX7_lookAtThing_98 (by decide) (fun _ => ?_) (fun c_ => by cases c_)
      have c_15 : ¬ (sA κ 3 (aN xb)) = (sA κ 3 (aN xc)) := fun h => n_8 (by rw [← h]; exact n_4)
      refine lv_iconst (v := 0) hx hb dX7_lookAtThing_105 (by decide) ?_
      refine r_kv hw (r_runV (rest := []) hC hw 2 (c_X3_setWord l _ _ 2 8 xa 0 (by assumption) (wXl 2 (by decide)) wXc2 (wXl 8 (by decide)) wXc8) rk3 (wXl 2 (by decide)) wXc2 2 gX7_lookAtThing_X3_setWord rfl rfl rfl (by decide +kernel) ⟨Nat.le_of_ble_eq_true rfl, Nat.le_of_ble_eq_true rfl⟩ rfl hl.1 rfl (Nat.le_of_ble_eq_true rfl) dX7_lookAtThing_106 ⟨Nat.le_of_ble_eq_true rfl, Nat.le_of_ble_eq_true rfl⟩) (fun u_18 H locs h_16 hw => ?_)
      replace hw := xS_words hw
      refine lv_goto (tgt := 153) hx hb dX7_lookAtThing_109 (by decide) ?_
      refine lv_iconst (v := 0) hx hb dX7_lookAtThing_153 (by decide) ?_
      exact r_iret hC hr hlk hw (uA κ 2 (aN xa) 0) rfl ((congrArg (fun z => ((0 : Int32), uA κ 2 (aN xa) z)) (if_neg c_15).symm).trans (doR0 (κ := κ) (hd := hd) (th := th) (k := 36) (a := xa) (b := xb) (c := xc) rfl).symm) (Nat.le_of_ble_eq_true rfl) (Nat.le_of_ble_eq_true rfl) dX7_lookAtThing_154
  · refine r_topv (y := .ref (ad (100 + 4 * (aN ((sA κ 3 (aN xb)) - 1))))) (by rw [gN_in (by assumption) (by decide)]; show va_rf ((rT (sA κ 3 (aN xb))).map ad) = _; rw [rT1 n_4]; rfl) ?_
    have hB_b := hX.2.1 xb (by assumption) n_4
    have h6_b : (aN ((sA κ 3 (aN xb)) - 1)) < 60 := Nat.lt_of_lt_of_le hB_b.2 hX.1
    have hl_b : (wX q ad κ τ).2.1 (100 + 4 * (aN ((sA κ 3 (aN xb)) - 1))) := thl hB_b.2
    have hc_b : (wX q ad κ τ).2.2 (100 + 4 * (aN ((sA κ 3 (aN xb)) - 1))) = .inr (6, fsT ad κ (aN ((sA κ 3 (aN xb)) - 1))) := thc h6_b
    have hk_b := hX.2.2.1 _ hB_b.2
    refine lv_astore_n (lv' := [(2, .ref (ad (100 + 4 * (aN ((sA κ 3 (aN xb)) - 1))))), (0, .ref (ad 5)), (1, .ref (ad ρ))]) hx hb dX7_lookAtThing_11 rfl hl (by decide) rfl (fun ls hl => ?_)
    refine lv_aload_n hx hb dX7_lookAtThing_12 rfl (lv_at hl 2 rfl) ?_
    refine r_get hC hw rk5 in_X7_lookAtThing_5 ρ hst.1 hst.2 0 (by decide) lk_X7_lookAtThing_15 (v := .int 36) rfl dX7_lookAtThing_13 ?_
    refine lv_tableIn (tgt := 78) hx hb dX7_lookAtThing_16 (by decide) (by decide) (by rfl) (by decide) ?_
    refine lv_aload_n hx hb dX7_lookAtThing_78 rfl (lv_at hl 1 rfl) ?_
    refine r_get hC hw rk7 in_X7_lookAtThing_7 5 (wXl 5 (by decide)) wXc5 0 (by decide) lk_X7_lookAtThing_9 (v := .ref (ad 2)) rfl dX7_lookAtThing_79 ?_
    refine lv_aload_n hx hb dX7_lookAtThing_82 rfl (lv_at hl 2 rfl) ?_
    refine r_get hC hw rk5 in_X7_lookAtThing_5 ρ hst.1 hst.2 1 (by decide) lk_X7_lookAtThing_69 (v := .int xa) rfl dX7_lookAtThing_83 ?_
    refine lv_aload_n hx hb dX7_lookAtThing_86 rfl (lv_at hl 0 rfl) ?_
    refine lv_aload_n hx hb dX7_lookAtThing_87 rfl (lv_at hl 1 rfl) ?_
    refine r_get hC hw rk7 in_X7_lookAtThing_7 5 (wXl 5 (by decide)) wXc5 0 (by decide) lk_X7_lookAtThing_9 (v := .ref (ad 2)) rfl dX7_lookAtThing_88 ?_
    refine lv_aload_n hx hb dX7_lookAtThing_91 rfl (lv_at hl 2 rfl) ?_
    refine r_get hC hw rk5 in_X7_lookAtThing_5 ρ hst.1 hst.2 3 (by decide) lk_X7_lookAtThing_57 (v := .int xc) rfl dX7_lookAtThing_92 ?_
    refine r_kq hw (r_runV (rest := [.ref (ad (100 + 4 * (aN ((sA κ 3 (aN xb)) - 1)))), .int xa, .ref (ad 2)]) hC hw 2 (c_X3_getThing l _ _ 2 12 xc (wXl 2 (by decide)) wXc2 (wXl 12 (by decide)) wXc12) rk3 (wXl 2 (by decide)) wXc2 1 gX7_lookAtThing_X3_getThing rfl rfl rfl (by decide +kernel) ⟨Nat.le_of_ble_eq_true rfl, Nat.le_of_ble_eq_true rfl⟩ rfl hl.1 rfl (Nat.le_of_ble_eq_true rfl) dX7_lookAtThing_95 ⟨Nat.le_of_ble_eq_true rfl, Nat.le_of_ble_eq_true rfl⟩) (fun r_20 u_21 H locs h_19 hw => ?_)
    subst h_19
    by_cases n_22 : (sA κ 3 (aN xc)) = 0
    · refine r_topv (y := .null) (by rw [gN_in (by assumption) (by decide)]; show va_rf ((rT (sA κ 3 (aN xc))).map ad) = _; rw [rT0 n_22]; rfl) ?_
      refine lv_acmp_ne (rx := some (ad (100 + 4 * (aN ((sA κ 3 (aN xb)) - 1))))) (ry := none) (tgt := 105) hx hb dX7_lookAtThing_98 (by decide) (fun _ => ?_) (fun c_ => by cases c_)
      have c_24 : ¬ (sA κ 3 (aN xb)) = (sA κ 3 (aN xc)) := fun h => n_4 (by rw [h]; exact n_22)
      refine lv_iconst (v := 0) hx hb dX7_lookAtThing_105 (by decide) ?_
      refine r_kv hw (r_runV (rest := []) hC hw 2 (c_X3_setWord l _ _ 2 8 xa 0 (by assumption) (wXl 2 (by decide)) wXc2 (wXl 8 (by decide)) wXc8) rk3 (wXl 2 (by decide)) wXc2 2 gX7_lookAtThing_X3_setWord rfl rfl rfl (by decide +kernel) ⟨Nat.le_of_ble_eq_true rfl, Nat.le_of_ble_eq_true rfl⟩ rfl hl.1 rfl (Nat.le_of_ble_eq_true rfl) dX7_lookAtThing_106 ⟨Nat.le_of_ble_eq_true rfl, Nat.le_of_ble_eq_true rfl⟩) (fun u_27 H locs h_25 hw => ?_)
      replace hw := xS_words hw
      refine lv_goto (tgt := 153) hx hb dX7_lookAtThing_109 (by decide) ?_
      refine lv_iconst (v := 0) hx hb dX7_lookAtThing_153 (by decide) ?_
      exact r_iret hC hr hlk hw (uA κ 2 (aN xa) 0) rfl ((congrArg (fun z => ((0 : Int32), uA κ 2 (aN xa) z)) (if_neg c_24).symm).trans (doR0 (κ := κ) (hd := hd) (th := th) (k := 36) (a := xa) (b := xb) (c := xc) rfl).symm) (Nat.le_of_ble_eq_true rfl) (Nat.le_of_ble_eq_true rfl) dX7_lookAtThing_154
    · refine r_topv (y := .ref (ad (100 + 4 * (aN ((sA κ 3 (aN xc)) - 1))))) (by rw [gN_in (by assumption) (by decide)]; show va_rf ((rT (sA κ 3 (aN xc))).map ad) = _; rw [rT1 n_22]; rfl) ?_
      have hB_c := hX.2.1 xc (by assumption) n_22
      have h6_c : (aN ((sA κ 3 (aN xc)) - 1)) < 60 := Nat.lt_of_lt_of_le hB_c.2 hX.1
      have hl_c : (wX q ad κ τ).2.1 (100 + 4 * (aN ((sA κ 3 (aN xc)) - 1))) := thl hB_c.2
      have hc_c : (wX q ad κ τ).2.2 (100 + 4 * (aN ((sA κ 3 (aN xc)) - 1))) = .inr (6, fsT ad κ (aN ((sA κ 3 (aN xc)) - 1))) := thc h6_c
      have hk_c := hX.2.2.1 _ hB_c.2
      refine lv_acmp_ne (rx := some (ad (100 + 4 * (aN ((sA κ 3 (aN xb)) - 1))))) (ry := some (ad (100 + 4 * (aN ((sA κ 3 (aN xc)) - 1))))) (tgt := 105) hx hb dX7_lookAtThing_98 (by decide) (fun a_30 => ?_) (fun a_30 => ?_)
      · have c_29 : ¬ (sA κ 3 (aN xb)) = (sA κ 3 (aN xc)) := fun h => a_30 (by rw [h])
        refine lv_iconst (v := 0) hx hb dX7_lookAtThing_105 (by decide) ?_
        refine r_kv hw (r_runV (rest := []) hC hw 2 (c_X3_setWord l _ _ 2 8 xa 0 (by assumption) (wXl 2 (by decide)) wXc2 (wXl 8 (by decide)) wXc8) rk3 (wXl 2 (by decide)) wXc2 2 gX7_lookAtThing_X3_setWord rfl rfl rfl (by decide +kernel) ⟨Nat.le_of_ble_eq_true rfl, Nat.le_of_ble_eq_true rfl⟩ rfl hl.1 rfl (Nat.le_of_ble_eq_true rfl) dX7_lookAtThing_106 ⟨Nat.le_of_ble_eq_true rfl, Nat.le_of_ble_eq_true rfl⟩) (fun u_33 H locs h_31 hw => ?_)
        replace hw := xS_words hw
        refine lv_goto (tgt := 153) hx hb dX7_lookAtThing_109 (by decide) ?_
        refine lv_iconst (v := 0) hx hb dX7_lookAtThing_153 (by decide) ?_
        exact r_iret hC hr hlk hw (uA κ 2 (aN xa) 0) rfl ((congrArg (fun z => ((0 : Int32), uA κ 2 (aN xa) z)) (if_neg c_29).symm).trans (doR0 (κ := κ) (hd := hd) (th := th) (k := 36) (a := xa) (b := xb) (c := xc) rfl).symm) (Nat.le_of_ble_eq_true rfl) (Nat.le_of_ble_eq_true rfl) dX7_lookAtThing_154
      · have c_29 : (sA κ 3 (aN xb)) = (sA κ 3 (aN xc)) := rf_inj hB_b.1 hB_c.1 (by have := hw.2.2.1 _ _ hl_b hl_c (Option.some.inj a_30); omega)
        refine lv_iconst (v := 1) hx hb dX7_lookAtThing_101 (by decide) ?_
        refine lv_goto (tgt := 106) hx hb dX7_lookAtThing_102 (by decide) ?_
        refine r_kv hw (r_runV (rest := []) hC hw 2 (c_X3_setWord l _ _ 2 8 xa 1 (by assumption) (wXl 2 (by decide)) wXc2 (wXl 8 (by decide)) wXc8) rk3 (wXl 2 (by decide)) wXc2 2 gX7_lookAtThing_X3_setWord rfl rfl rfl (by decide +kernel) ⟨Nat.le_of_ble_eq_true rfl, Nat.le_of_ble_eq_true rfl⟩ rfl hl.1 rfl (Nat.le_of_ble_eq_true rfl) dX7_lookAtThing_106 ⟨Nat.le_of_ble_eq_true rfl, Nat.le_of_ble_eq_true rfl⟩) (fun u_36 H locs h_34 hw => ?_)
        replace hw := xS_words hw
        refine lv_goto (tgt := 153) hx hb dX7_lookAtThing_109 (by decide) ?_
        refine lv_iconst (v := 0) hx hb dX7_lookAtThing_153 (by decide) ?_
        exact r_iret hC hr hlk hw (uA κ 2 (aN xa) 1) rfl ((congrArg (fun z => ((0 : Int32), uA κ 2 (aN xa) z)) (if_pos c_29).symm).trans (doR0 (κ := κ) (hd := hd) (th := th) (k := 36) (a := xa) (b := xb) (c := xc) rfl).symm) (Nat.le_of_ble_eq_true rfl) (Nat.le_of_ble_eq_true rfl) dX7_lookAtThing_154

set_option maxHeartbeats 4000000 in
set_option maxRecDepth 100000 in
theorem c_X7_lookAtThing_37 (l : Launch) {D : va_G} {q : Nat → ClassId} {ad : Nat → Nat} {κ : KS} {τ : TAU} (sz : Nat) (ρ : Nat) (xa xb xc hd th : Int32) (hst : stepAt q ad κ τ ρ 37 xa xb xc) (hs : okStep 37 xa xb xc)(hX : WFx κ) (hN : nnOp κ 37 xa xb xc) : Met l yX7_lookAtThing wsX7_lookAtThing (rmz 2 44) (va_Pc [.ref (ad 5), .ref (ad ρ)] (rPre D q (wX q ad κ τ) sz)) (va_Qi (fun (r : Int32) (u : KS) => (r, u) = doR κ hd th 37 xa xb xc) (fun (u : KS) tt => rPo D (rA (wX q ad κ τ) sz) (wX q ad u τ) tt) (rA (wX q ad κ τ) sz)) 0 0 (rA (wX q ad κ τ) sz) := by
  have hi0 : vp_in xa 8 := hs.1
  have hi1 : vp_in xb 8 := hs.2.1
  have hi2 : vp_in xc 17 := hs.2.2
  refine r_start (cc := cX7_lookAtThing) (maxL := 3) (ret := (some .int)) (by decide) rfl (Nat.le_of_ble_eq_true rfl) ?_
  intro p e s m below meth c ls hC hr hlk hnm hsz hw hl
  have hx := hC.1
  have hb := hC.2.1
  have hl : lv_has ls 3 [(0, .ref (ad 5)), (1, .ref (ad ρ))] := hl
  refine lv_aload_n hx hb dX7_lookAtThing_0 rfl (lv_at hl 0 rfl) ?_
  refine r_get hC hw rk7 in_X7_lookAtThing_7 5 (wXl 5 (by decide)) wXc5 0 (by decide) lk_X7_lookAtThing_9 (v := .ref (ad 2)) rfl dX7_lookAtThing_1 ?_
  refine lv_aload_n hx hb dX7_lookAtThing_4 rfl (lv_at hl 1 rfl) ?_
  refine r_get hC hw rk5 in_X7_lookAtThing_5 ρ hst.1 hst.2 2 (by decide) lk_X7_lookAtThing_74 (v := .int xb) rfl dX7_lookAtThing_5 ?_
  refine r_kq hw (r_runV (rest := []) hC hw 2 (c_X3_getThing l _ _ 2 12 xb (wXl 2 (by decide)) wXc2 (wXl 12 (by decide)) wXc12) rk3 (wXl 2 (by decide)) wXc2 1 gX7_lookAtThing_X3_getThing rfl rfl rfl (by decide +kernel) ⟨Nat.le_of_ble_eq_true rfl, Nat.le_of_ble_eq_true rfl⟩ rfl hl.1 rfl (Nat.le_of_ble_eq_true rfl) dX7_lookAtThing_8 ⟨Nat.le_of_ble_eq_true rfl, Nat.le_of_ble_eq_true rfl⟩) (fun r_2 u_3 H locs h_1 hw => ?_)
  subst h_1
  by_cases n_4 : (sA κ 3 (aN xb)) = 0
  · refine r_topv (y := .null) (by rw [gN_in (by assumption) (by decide)]; show va_rf ((rT (sA κ 3 (aN xb))).map ad) = _; rw [rT0 n_4]; rfl) ?_
    refine lv_astore_nN (lv' := [(2, .null), (0, .ref (ad 5)), (1, .ref (ad ρ))]) hx hb dX7_lookAtThing_11 rfl hl (by decide) rfl (fun ls hl => ?_)
    refine lv_aload_n hx hb dX7_lookAtThing_12 rfl (lv_at hl 2 rfl) ?_
    refine r_get hC hw rk5 in_X7_lookAtThing_5 ρ hst.1 hst.2 0 (by decide) lk_X7_lookAtThing_15 (v := .int 37) rfl dX7_lookAtThing_13 ?_
    refine lv_tableIn (tgt := 112) hx hb dX7_lookAtThing_16 (by decide) (by decide) (by rfl) (by decide) ?_
    refine lv_aload_n hx hb dX7_lookAtThing_112 rfl (lv_at hl 1 rfl) ?_
    refine r_get hC hw rk7 in_X7_lookAtThing_7 5 (wXl 5 (by decide)) wXc5 0 (by decide) lk_X7_lookAtThing_9 (v := .ref (ad 2)) rfl dX7_lookAtThing_113 ?_
    refine lv_aload_n hx hb dX7_lookAtThing_116 rfl (lv_at hl 2 rfl) ?_
    refine r_get hC hw rk5 in_X7_lookAtThing_5 ρ hst.1 hst.2 1 (by decide) lk_X7_lookAtThing_69 (v := .int xa) rfl dX7_lookAtThing_117 ?_
    refine lv_aload_nN hx hb dX7_lookAtThing_120 rfl (lv_at hl 0 rfl) ?_
    refine lv_ifnullN (tgt := 139) hx hb dX7_lookAtThing_121 (by decide) ?_
    refine lv_iconst (v := 0) hx hb dX7_lookAtThing_139 (by decide) ?_
    refine r_kv hw (r_runV (rest := []) hC hw 2 (c_X3_setWord l _ _ 2 8 xa 0 (by assumption) (wXl 2 (by decide)) wXc2 (wXl 8 (by decide)) wXc8) rk3 (wXl 2 (by decide)) wXc2 2 gX7_lookAtThing_X3_setWord rfl rfl rfl (by decide +kernel) ⟨Nat.le_of_ble_eq_true rfl, Nat.le_of_ble_eq_true rfl⟩ rfl hl.1 rfl (Nat.le_of_ble_eq_true rfl) dX7_lookAtThing_140 ⟨Nat.le_of_ble_eq_true rfl, Nat.le_of_ble_eq_true rfl⟩) (fun u_7 H locs h_5 hw => ?_)
    replace hw := xS_words hw
    refine lv_goto (tgt := 153) hx hb dX7_lookAtThing_143 (by decide) ?_
    refine lv_iconst (v := 0) hx hb dX7_lookAtThing_153 (by decide) ?_
    exact r_iret hC hr hlk hw (uA κ 2 (aN xa) 0) rfl ((congrArg (fun z => ((0 : Int32), uA κ 2 (aN xa) z)) (if_pos n_4).symm).trans (doR0 (κ := κ) (hd := hd) (th := th) (k := 37) (a := xa) (b := xb) (c := xc) rfl).symm) (Nat.le_of_ble_eq_true rfl) (Nat.le_of_ble_eq_true rfl) dX7_lookAtThing_154
  · refine r_topv (y := .ref (ad (100 + 4 * (aN ((sA κ 3 (aN xb)) - 1))))) (by rw [gN_in (by assumption) (by decide)]; show va_rf ((rT (sA κ 3 (aN xb))).map ad) = _; rw [rT1 n_4]; rfl) ?_
    have hB_b := hX.2.1 xb (by assumption) n_4
    have h6_b : (aN ((sA κ 3 (aN xb)) - 1)) < 60 := Nat.lt_of_lt_of_le hB_b.2 hX.1
    have hl_b : (wX q ad κ τ).2.1 (100 + 4 * (aN ((sA κ 3 (aN xb)) - 1))) := thl hB_b.2
    have hc_b : (wX q ad κ τ).2.2 (100 + 4 * (aN ((sA κ 3 (aN xb)) - 1))) = .inr (6, fsT ad κ (aN ((sA κ 3 (aN xb)) - 1))) := thc h6_b
    have hk_b := hX.2.2.1 _ hB_b.2
    refine lv_astore_n (lv' := [(2, .ref (ad (100 + 4 * (aN ((sA κ 3 (aN xb)) - 1))))), (0, .ref (ad 5)), (1, .ref (ad ρ))]) hx hb dX7_lookAtThing_11 rfl hl (by decide) rfl (fun ls hl => ?_)
    refine lv_aload_n hx hb dX7_lookAtThing_12 rfl (lv_at hl 2 rfl) ?_
    refine r_get hC hw rk5 in_X7_lookAtThing_5 ρ hst.1 hst.2 0 (by decide) lk_X7_lookAtThing_15 (v := .int 37) rfl dX7_lookAtThing_13 ?_
    refine lv_tableIn (tgt := 112) hx hb dX7_lookAtThing_16 (by decide) (by decide) (by rfl) (by decide) ?_
    refine lv_aload_n hx hb dX7_lookAtThing_112 rfl (lv_at hl 1 rfl) ?_
    refine r_get hC hw rk7 in_X7_lookAtThing_7 5 (wXl 5 (by decide)) wXc5 0 (by decide) lk_X7_lookAtThing_9 (v := .ref (ad 2)) rfl dX7_lookAtThing_113 ?_
    refine lv_aload_n hx hb dX7_lookAtThing_116 rfl (lv_at hl 2 rfl) ?_
    refine r_get hC hw rk5 in_X7_lookAtThing_5 ρ hst.1 hst.2 1 (by decide) lk_X7_lookAtThing_69 (v := .int xa) rfl dX7_lookAtThing_117 ?_
    refine lv_aload_n hx hb dX7_lookAtThing_120 rfl (lv_at hl 0 rfl) ?_
    refine lv_ifnull hx hb dX7_lookAtThing_121 ?_
    refine lv_aload_n hx hb dX7_lookAtThing_124 rfl (lv_at hl 0 rfl) ?_
    refine lv_aload_n hx hb dX7_lookAtThing_125 rfl (lv_at hl 2 rfl) ?_
    refine r_get hC hw rk5 in_X7_lookAtThing_5 ρ hst.1 hst.2 3 (by decide) lk_X7_lookAtThing_57 (v := .int xc) rfl dX7_lookAtThing_126 ?_
    refine r_ki hw (r_runV (rest := [.int xa, .ref (ad 2)]) hC hw (100 + 4 * (aN ((sA κ 3 (aN xb)) - 1))) (c_X6_isOf l _ _ (100 + 4 * (aN ((sA κ 3 (aN xb)) - 1))) xc (by assumption) hk_b.1 hl_b hc_b) rk6 hl_b hc_b 1 gX7_lookAtThing_X6_isOf rfl rfl rfl (by decide +kernel) ⟨Nat.le_of_ble_eq_true rfl, Nat.le_of_ble_eq_true rfl⟩ rfl hl.1 rfl (Nat.le_of_ble_eq_true rfl) dX7_lookAtThing_129 ⟨Nat.le_of_ble_eq_true rfl, Nat.le_of_ble_eq_true rfl⟩) (fun r_9 u_10 H locs h_8 hw => ?_)
    by_cases c_11 : pOf (sA κ 4 (aN ((sA κ 3 (aN xb)) - 1))) xc
    · rw [if_pos c_11] at h_8
      subst h_8
      refine lv_if_eq (tgt := 139) hx hb dX7_lookAtThing_132 (by decide) (fun c_ => absurd c_ (by decide)) (fun _ => ?_)
      refine lv_iconst (v := 1) hx hb dX7_lookAtThing_135 (by decide) ?_
      refine lv_goto (tgt := 140) hx hb dX7_lookAtThing_136 (by decide) ?_
      refine r_kv hw (r_runV (rest := []) hC hw 2 (c_X3_setWord l _ _ 2 8 xa 1 (by assumption) (wXl 2 (by decide)) wXc2 (wXl 8 (by decide)) wXc8) rk3 (wXl 2 (by decide)) wXc2 2 gX7_lookAtThing_X3_setWord rfl rfl rfl (by decide +kernel) ⟨Nat.le_of_ble_eq_true rfl, Nat.le_of_ble_eq_true rfl⟩ rfl hl.1 rfl (Nat.le_of_ble_eq_true rfl) dX7_lookAtThing_140 ⟨Nat.le_of_ble_eq_true rfl, Nat.le_of_ble_eq_true rfl⟩) (fun u_14 H locs h_12 hw => ?_)
      replace hw := xS_words hw
      refine lv_goto (tgt := 153) hx hb dX7_lookAtThing_143 (by decide) ?_
      refine lv_iconst (v := 0) hx hb dX7_lookAtThing_153 (by decide) ?_
      exact r_iret hC hr hlk hw (uA κ 2 (aN xa) 1) rfl ((congrArg (fun z => ((0 : Int32), uA κ 2 (aN xa) z)) ((if_neg n_4).trans (if_pos c_11)).symm).trans (doR0 (κ := κ) (hd := hd) (th := th) (k := 37) (a := xa) (b := xb) (c := xc) rfl).symm) (Nat.le_of_ble_eq_true rfl) (Nat.le_of_ble_eq_true rfl) dX7_lookAtThing_154
    · rw [if_neg c_11] at h_8
      subst h_8
      refine lv_if_eq (tgt := 139) hx hb dX7_lookAtThing_132 (by decide) (fun _ => ?_) (fun c_ => absurd (by decide) c_)
      refine lv_iconst (v := 0) hx hb dX7_lookAtThing_139 (by decide) ?_
      refine r_kv hw (r_runV (rest := []) hC hw 2 (c_X3_setWord l _ _ 2 8 xa 0 (by assumption) (wXl 2 (by decide)) wXc2 (wXl 8 (by decide)) wXc8) rk3 (wXl 2 (by decide)) wXc2 2 gX7_lookAtThing_X3_setWord rfl rfl rfl (by decide +kernel) ⟨Nat.le_of_ble_eq_true rfl, Nat.le_of_ble_eq_true rfl⟩ rfl hl.1 rfl (Nat.le_of_ble_eq_true rfl) dX7_lookAtThing_140 ⟨Nat.le_of_ble_eq_true rfl, Nat.le_of_ble_eq_true rfl⟩) (fun u_17 H locs h_15 hw => ?_)
      replace hw := xS_words hw
      refine lv_goto (tgt := 153) hx hb dX7_lookAtThing_143 (by decide) ?_
      refine lv_iconst (v := 0) hx hb dX7_lookAtThing_153 (by decide) ?_
      exact r_iret hC hr hlk hw (uA κ 2 (aN xa) 0) rfl ((congrArg (fun z => ((0 : Int32), uA κ 2 (aN xa) z)) ((if_neg n_4).trans (if_neg c_11)).symm).trans (doR0 (κ := κ) (hd := hd) (th := th) (k := 37) (a := xa) (b := xb) (c := xc) rfl).symm) (Nat.le_of_ble_eq_true rfl) (Nat.le_of_ble_eq_true rfl) dX7_lookAtThing_154

set_option maxHeartbeats 4000000 in
set_option maxRecDepth 100000 in
theorem c_X7_weave_34 (l : Launch) {D : va_G} {q : Nat → ClassId} {ad : Nat → Nat} {κ : KS} {τ : TAU} (sz : Nat) (ρ : Nat) (xa xb xc hd th : Int32) (hst : stepAt q ad κ τ ρ 34 xa xb xc) (hs : okStep 34 xa xb xc)(hX : WFx κ) (hN : nnOp κ 34 xa xb xc) : Met l yX7_weave wsX7_weave (rmz 3 67) (va_Pc [.ref (ad 5), .ref (ad ρ)] (rPre D q (wX q ad κ τ) sz)) (va_Qi (fun (r : Int32) (u : KS) => (r, u) = doR κ hd th 34 xa xb xc) (fun (u : KS) tt => rPo D (rA (wX q ad κ τ) sz) (wX q ad u τ) tt) (rA (wX q ad κ τ) sz)) 0 0 (rA (wX q ad κ τ) sz) := by
  have hi0 : vp_in xa 8 := hs.1
  have hi1 : vp_in xb 8 := hs.2.1
  refine r_start (cc := cX7_weave) (maxL := 2) (ret := (some .int)) (by decide) rfl (Nat.le_of_ble_eq_true rfl) ?_
  intro p e s m below meth c ls hC hr hlk hnm hsz hw hl
  have hx := hC.1
  have hb := hC.2.1
  have hl : lv_has ls 2 [(0, .ref (ad 5)), (1, .ref (ad ρ))] := hl
  refine lv_aload_n hx hb dX7_weave_0 rfl (lv_at hl 1 rfl) ?_
  refine r_get hC hw rk5 in_X7_weave_5 ρ hst.1 hst.2 0 (by decide) lk_X7_weave_15 (v := .int 34) rfl dX7_weave_1 ?_
  refine lv_bipush (v := 39) hx hb dX7_weave_4 (by decide) ?_
  refine lv_icmp_lt (tgt := 34) hx hb dX7_weave_6 (by decide) (fun _ => ?_) (fun c_ => absurd (by decide) c_)
  refine lv_aload_n hx hb dX7_weave_34 rfl (lv_at hl 1 rfl) ?_
  refine r_get hC hw rk5 in_X7_weave_5 ρ hst.1 hst.2 0 (by decide) lk_X7_weave_15 (v := .int 34) rfl dX7_weave_35 ?_
  refine lv_bipush (v := 49) hx hb dX7_weave_38 (by decide) ?_
  refine lv_icmp_lt (tgt := 68) hx hb dX7_weave_40 (by decide) (fun _ => ?_) (fun c_ => absurd (by decide) c_)
  refine lv_aload_n hx hb dX7_weave_68 rfl (lv_at hl 1 rfl) ?_
  refine r_get hC hw rk5 in_X7_weave_5 ρ hst.1 hst.2 0 (by decide) lk_X7_weave_15 (v := .int 34) rfl dX7_weave_69 ?_
  refine lv_bipush (v := 59) hx hb dX7_weave_72 (by decide) ?_
  refine lv_icmp_lt (tgt := 92) hx hb dX7_weave_74 (by decide) (fun _ => ?_) (fun c_ => absurd (by decide) c_)
  refine lv_aload_n hx hb dX7_weave_92 rfl (lv_at hl 1 rfl) ?_
  refine r_get hC hw rk5 in_X7_weave_5 ρ hst.1 hst.2 0 (by decide) lk_X7_weave_15 (v := .int 34) rfl dX7_weave_93 ?_
  refine lv_lookup (off := 90) (tgt := 186) hx hb dX7_weave_96 (by decide) (by decide) (by decide) ?_
  refine lv_aload_n hx hb dX7_weave_186 rfl (lv_at hl 0 rfl) ?_
  refine lv_aload_n hx hb dX7_weave_187 rfl (lv_at hl 1 rfl) ?_
  refine r_ki hw (r_runV (rest := []) hC hw 5 (c_X7_lookAtThing_34 l _ ρ xa xb xc hd th hst hs hX hN) rk7 (wXl 5 (by decide)) wXc5 1 gX7_weave_X7_lookAtThing rfl rfl rfl (by decide +kernel) ⟨Nat.le_of_ble_eq_true rfl, Nat.le_of_ble_eq_true rfl⟩ rfl hl.1 rfl (Nat.le_of_ble_eq_true rfl) dX7_weave_188 ⟨Nat.le_of_ble_eq_true rfl, Nat.le_of_ble_eq_true rfl⟩) (fun r_2 u_3 H locs h_1 hw => ?_)
  exact r_iret hC hr hlk hw u_3 rfl h_1 (Nat.le_of_ble_eq_true rfl) (Nat.le_of_ble_eq_true rfl) dX7_weave_191

set_option maxHeartbeats 4000000 in
set_option maxRecDepth 100000 in
theorem c_X7_weave_35 (l : Launch) {D : va_G} {q : Nat → ClassId} {ad : Nat → Nat} {κ : KS} {τ : TAU} (sz : Nat) (ρ : Nat) (xa xb xc hd th : Int32) (hst : stepAt q ad κ τ ρ 35 xa xb xc) (hs : okStep 35 xa xb xc)(hX : WFx κ) (hN : nnOp κ 35 xa xb xc) : Met l yX7_weave wsX7_weave (rmz 3 67) (va_Pc [.ref (ad 5), .ref (ad ρ)] (rPre D q (wX q ad κ τ) sz)) (va_Qi (fun (r : Int32) (u : KS) => (r, u) = doR κ hd th 35 xa xb xc) (fun (u : KS) tt => rPo D (rA (wX q ad κ τ) sz) (wX q ad u τ) tt) (rA (wX q ad κ τ) sz)) 0 0 (rA (wX q ad κ τ) sz) := by
  have hi0 : vp_in xa 8 := hs.1
  refine r_start (cc := cX7_weave) (maxL := 2) (ret := (some .int)) (by decide) rfl (Nat.le_of_ble_eq_true rfl) ?_
  intro p e s m below meth c ls hC hr hlk hnm hsz hw hl
  have hx := hC.1
  have hb := hC.2.1
  have hl : lv_has ls 2 [(0, .ref (ad 5)), (1, .ref (ad ρ))] := hl
  refine lv_aload_n hx hb dX7_weave_0 rfl (lv_at hl 1 rfl) ?_
  refine r_get hC hw rk5 in_X7_weave_5 ρ hst.1 hst.2 0 (by decide) lk_X7_weave_15 (v := .int 35) rfl dX7_weave_1 ?_
  refine lv_bipush (v := 39) hx hb dX7_weave_4 (by decide) ?_
  refine lv_icmp_lt (tgt := 34) hx hb dX7_weave_6 (by decide) (fun _ => ?_) (fun c_ => absurd (by decide) c_)
  refine lv_aload_n hx hb dX7_weave_34 rfl (lv_at hl 1 rfl) ?_
  refine r_get hC hw rk5 in_X7_weave_5 ρ hst.1 hst.2 0 (by decide) lk_X7_weave_15 (v := .int 35) rfl dX7_weave_35 ?_
  refine lv_bipush (v := 49) hx hb dX7_weave_38 (by decide) ?_
  refine lv_icmp_lt (tgt := 68) hx hb dX7_weave_40 (by decide) (fun _ => ?_) (fun c_ => absurd (by decide) c_)
  refine lv_aload_n hx hb dX7_weave_68 rfl (lv_at hl 1 rfl) ?_
  refine r_get hC hw rk5 in_X7_weave_5 ρ hst.1 hst.2 0 (by decide) lk_X7_weave_15 (v := .int 35) rfl dX7_weave_69 ?_
  refine lv_bipush (v := 59) hx hb dX7_weave_72 (by decide) ?_
  refine lv_icmp_lt (tgt := 92) hx hb dX7_weave_74 (by decide) (fun _ => ?_) (fun c_ => absurd (by decide) c_)
  refine lv_aload_n hx hb dX7_weave_92 rfl (lv_at hl 1 rfl) ?_
  refine r_get hC hw rk5 in_X7_weave_5 ρ hst.1 hst.2 0 (by decide) lk_X7_weave_15 (v := .int 35) rfl dX7_weave_93 ?_
  refine lv_lookup (off := 90) (tgt := 186) hx hb dX7_weave_96 (by decide) (by decide) (by decide) ?_
  refine lv_aload_n hx hb dX7_weave_186 rfl (lv_at hl 0 rfl) ?_
  refine lv_aload_n hx hb dX7_weave_187 rfl (lv_at hl 1 rfl) ?_
  refine r_ki hw (r_runV (rest := []) hC hw 5 (c_X7_lookAtThing_35 l _ ρ xa xb xc hd th hst hs hX hN) rk7 (wXl 5 (by decide)) wXc5 1 gX7_weave_X7_lookAtThing rfl rfl rfl (by decide +kernel) ⟨Nat.le_of_ble_eq_true rfl, Nat.le_of_ble_eq_true rfl⟩ rfl hl.1 rfl (Nat.le_of_ble_eq_true rfl) dX7_weave_188 ⟨Nat.le_of_ble_eq_true rfl, Nat.le_of_ble_eq_true rfl⟩) (fun r_2 u_3 H locs h_1 hw => ?_)
  exact r_iret hC hr hlk hw u_3 rfl h_1 (Nat.le_of_ble_eq_true rfl) (Nat.le_of_ble_eq_true rfl) dX7_weave_191

set_option maxHeartbeats 4000000 in
set_option maxRecDepth 100000 in
theorem c_X7_weave_36 (l : Launch) {D : va_G} {q : Nat → ClassId} {ad : Nat → Nat} {κ : KS} {τ : TAU} (sz : Nat) (ρ : Nat) (xa xb xc hd th : Int32) (hst : stepAt q ad κ τ ρ 36 xa xb xc) (hs : okStep 36 xa xb xc)(hX : WFx κ) (hN : nnOp κ 36 xa xb xc) : Met l yX7_weave wsX7_weave (rmz 3 67) (va_Pc [.ref (ad 5), .ref (ad ρ)] (rPre D q (wX q ad κ τ) sz)) (va_Qi (fun (r : Int32) (u : KS) => (r, u) = doR κ hd th 36 xa xb xc) (fun (u : KS) tt => rPo D (rA (wX q ad κ τ) sz) (wX q ad u τ) tt) (rA (wX q ad κ τ) sz)) 0 0 (rA (wX q ad κ τ) sz) := by
  have hi0 : vp_in xa 8 := hs.1
  have hi1 : vp_in xb 8 := hs.2.1
  have hi2 : vp_in xc 8 := hs.2.2
  refine r_start (cc := cX7_weave) (maxL := 2) (ret := (some .int)) (by decide) rfl (Nat.le_of_ble_eq_true rfl) ?_
  intro p e s m below meth c ls hC hr hlk hnm hsz hw hl
  have hx := hC.1
  have hb := hC.2.1
  have hl : lv_has ls 2 [(0, .ref (ad 5)), (1, .ref (ad ρ))] := hl
  refine lv_aload_n hx hb dX7_weave_0 rfl (lv_at hl 1 rfl) ?_
  refine r_get hC hw rk5 in_X7_weave_5 ρ hst.1 hst.2 0 (by decide) lk_X7_weave_15 (v := .int 36) rfl dX7_weave_1 ?_
  refine lv_bipush (v := 39) hx hb dX7_weave_4 (by decide) ?_
  refine lv_icmp_lt (tgt := 34) hx hb dX7_weave_6 (by decide) (fun _ => ?_) (fun c_ => absurd (by decide) c_)
  refine lv_aload_n hx hb dX7_weave_34 rfl (lv_at hl 1 rfl) ?_
  refine r_get hC hw rk5 in_X7_weave_5 ρ hst.1 hst.2 0 (by decide) lk_X7_weave_15 (v := .int 36) rfl dX7_weave_35 ?_
  refine lv_bipush (v := 49) hx hb dX7_weave_38 (by decide) ?_
  refine lv_icmp_lt (tgt := 68) hx hb dX7_weave_40 (by decide) (fun _ => ?_) (fun c_ => absurd (by decide) c_)
  refine lv_aload_n hx hb dX7_weave_68 rfl (lv_at hl 1 rfl) ?_
  refine r_get hC hw rk5 in_X7_weave_5 ρ hst.1 hst.2 0 (by decide) lk_X7_weave_15 (v := .int 36) rfl dX7_weave_69 ?_
  refine lv_bipush (v := 59) hx hb dX7_weave_72 (by decide) ?_
  refine lv_icmp_lt (tgt := 92) hx hb dX7_weave_74 (by decide) (fun _ => ?_) (fun c_ => absurd (by decide) c_)
  refine lv_aload_n hx hb dX7_weave_92 rfl (lv_at hl 1 rfl) ?_
  refine r_get hC hw rk5 in_X7_weave_5 ρ hst.1 hst.2 0 (by decide) lk_X7_weave_15 (v := .int 36) rfl dX7_weave_93 ?_
  refine lv_lookup (off := 90) (tgt := 186) hx hb dX7_weave_96 (by decide) (by decide) (by decide) ?_
  refine lv_aload_n hx hb dX7_weave_186 rfl (lv_at hl 0 rfl) ?_
  refine lv_aload_n hx hb dX7_weave_187 rfl (lv_at hl 1 rfl) ?_
  refine r_ki hw (r_runV (rest := []) hC hw 5 (c_X7_lookAtThing_36 l _ ρ xa xb xc hd th hst hs hX hN) rk7 (wXl 5 (by decide)) wXc5 1 gX7_weave_X7_lookAtThing rfl rfl rfl (by decide +kernel) ⟨Nat.le_of_ble_eq_true rfl, Nat.le_of_ble_eq_true rfl⟩ rfl hl.1 rfl (Nat.le_of_ble_eq_true rfl) dX7_weave_188 ⟨Nat.le_of_ble_eq_true rfl, Nat.le_of_ble_eq_true rfl⟩) (fun r_2 u_3 H locs h_1 hw => ?_)
  exact r_iret hC hr hlk hw u_3 rfl h_1 (Nat.le_of_ble_eq_true rfl) (Nat.le_of_ble_eq_true rfl) dX7_weave_191

set_option maxHeartbeats 4000000 in
set_option maxRecDepth 100000 in
theorem c_X7_weave_37 (l : Launch) {D : va_G} {q : Nat → ClassId} {ad : Nat → Nat} {κ : KS} {τ : TAU} (sz : Nat) (ρ : Nat) (xa xb xc hd th : Int32) (hst : stepAt q ad κ τ ρ 37 xa xb xc) (hs : okStep 37 xa xb xc)(hX : WFx κ) (hN : nnOp κ 37 xa xb xc) : Met l yX7_weave wsX7_weave (rmz 3 67) (va_Pc [.ref (ad 5), .ref (ad ρ)] (rPre D q (wX q ad κ τ) sz)) (va_Qi (fun (r : Int32) (u : KS) => (r, u) = doR κ hd th 37 xa xb xc) (fun (u : KS) tt => rPo D (rA (wX q ad κ τ) sz) (wX q ad u τ) tt) (rA (wX q ad κ τ) sz)) 0 0 (rA (wX q ad κ τ) sz) := by
  have hi0 : vp_in xa 8 := hs.1
  have hi1 : vp_in xb 8 := hs.2.1
  have hi2 : vp_in xc 17 := hs.2.2
  refine r_start (cc := cX7_weave) (maxL := 2) (ret := (some .int)) (by decide) rfl (Nat.le_of_ble_eq_true rfl) ?_
  intro p e s m below meth c ls hC hr hlk hnm hsz hw hl
  have hx := hC.1
  have hb := hC.2.1
  have hl : lv_has ls 2 [(0, .ref (ad 5)), (1, .ref (ad ρ))] := hl
  refine lv_aload_n hx hb dX7_weave_0 rfl (lv_at hl 1 rfl) ?_
  refine r_get hC hw rk5 in_X7_weave_5 ρ hst.1 hst.2 0 (by decide) lk_X7_weave_15 (v := .int 37) rfl dX7_weave_1 ?_
  refine lv_bipush (v := 39) hx hb dX7_weave_4 (by decide) ?_
  refine lv_icmp_lt (tgt := 34) hx hb dX7_weave_6 (by decide) (fun _ => ?_) (fun c_ => absurd (by decide) c_)
  refine lv_aload_n hx hb dX7_weave_34 rfl (lv_at hl 1 rfl) ?_
  refine r_get hC hw rk5 in_X7_weave_5 ρ hst.1 hst.2 0 (by decide) lk_X7_weave_15 (v := .int 37) rfl dX7_weave_35 ?_
  refine lv_bipush (v := 49) hx hb dX7_weave_38 (by decide) ?_
  refine lv_icmp_lt (tgt := 68) hx hb dX7_weave_40 (by decide) (fun _ => ?_) (fun c_ => absurd (by decide) c_)
  refine lv_aload_n hx hb dX7_weave_68 rfl (lv_at hl 1 rfl) ?_
  refine r_get hC hw rk5 in_X7_weave_5 ρ hst.1 hst.2 0 (by decide) lk_X7_weave_15 (v := .int 37) rfl dX7_weave_69 ?_
  refine lv_bipush (v := 59) hx hb dX7_weave_72 (by decide) ?_
  refine lv_icmp_lt (tgt := 92) hx hb dX7_weave_74 (by decide) (fun _ => ?_) (fun c_ => absurd (by decide) c_)
  refine lv_aload_n hx hb dX7_weave_92 rfl (lv_at hl 1 rfl) ?_
  refine r_get hC hw rk5 in_X7_weave_5 ρ hst.1 hst.2 0 (by decide) lk_X7_weave_15 (v := .int 37) rfl dX7_weave_93 ?_
  refine lv_lookup (off := 90) (tgt := 186) hx hb dX7_weave_96 (by decide) (by decide) (by decide) ?_
  refine lv_aload_n hx hb dX7_weave_186 rfl (lv_at hl 0 rfl) ?_
  refine lv_aload_n hx hb dX7_weave_187 rfl (lv_at hl 1 rfl) ?_
  refine r_ki hw (r_runV (rest := []) hC hw 5 (c_X7_lookAtThing_37 l _ ρ xa xb xc hd th hst hs hX hN) rk7 (wXl 5 (by decide)) wXc5 1 gX7_weave_X7_lookAtThing rfl rfl rfl (by decide +kernel) ⟨Nat.le_of_ble_eq_true rfl, Nat.le_of_ble_eq_true rfl⟩ rfl hl.1 rfl (Nat.le_of_ble_eq_true rfl) dX7_weave_188 ⟨Nat.le_of_ble_eq_true rfl, Nat.le_of_ble_eq_true rfl⟩) (fun r_2 u_3 H locs h_1 hw => ?_)
  exact r_iret hC hr hlk hw u_3 rfl h_1 (Nat.le_of_ble_eq_true rfl) (Nat.le_of_ble_eq_true rfl) dX7_weave_191

set_option maxHeartbeats 4000000 in
set_option maxRecDepth 100000 in
theorem c_X7_weave_38 (l : Launch) {D : va_G} {q : Nat → ClassId} {ad : Nat → Nat} {κ : KS} {τ : TAU} (sz : Nat) (ρ : Nat) (xa xb xc hd th : Int32) (hst : stepAt q ad κ τ ρ 38 xa xb xc) (hs : okStep 38 xa xb xc)(hX : WFx κ) (hN : nnOp κ 38 xa xb xc) : Met l yX7_weave wsX7_weave (rmz 3 67) (va_Pc [.ref (ad 5), .ref (ad ρ)] (rPre D q (wX q ad κ τ) sz)) (va_Qi (fun (r : Int32) (u : KS) => (r, u) = doR κ hd th 38 xa xb xc) (fun (u : KS) tt => rPo D (rA (wX q ad κ τ) sz) (wX q ad u τ) tt) (rA (wX q ad κ τ) sz)) 0 0 (rA (wX q ad κ τ) sz) := by
  have hi0 : vp_in xa 8 := hs.1
  have hi1 : vp_in xb 8 := hs.2.1
  refine r_start (cc := cX7_weave) (maxL := 2) (ret := (some .int)) (by decide) rfl (Nat.le_of_ble_eq_true rfl) ?_
  intro p e s m below meth c ls hC hr hlk hnm hsz hw hl
  have hx := hC.1
  have hb := hC.2.1
  have hl : lv_has ls 2 [(0, .ref (ad 5)), (1, .ref (ad ρ))] := hl
  refine lv_aload_n hx hb dX7_weave_0 rfl (lv_at hl 1 rfl) ?_
  refine r_get hC hw rk5 in_X7_weave_5 ρ hst.1 hst.2 0 (by decide) lk_X7_weave_15 (v := .int 38) rfl dX7_weave_1 ?_
  refine lv_bipush (v := 39) hx hb dX7_weave_4 (by decide) ?_
  refine lv_icmp_lt (tgt := 34) hx hb dX7_weave_6 (by decide) (fun _ => ?_) (fun c_ => absurd (by decide) c_)
  refine lv_aload_n hx hb dX7_weave_34 rfl (lv_at hl 1 rfl) ?_
  refine r_get hC hw rk5 in_X7_weave_5 ρ hst.1 hst.2 0 (by decide) lk_X7_weave_15 (v := .int 38) rfl dX7_weave_35 ?_
  refine lv_bipush (v := 49) hx hb dX7_weave_38 (by decide) ?_
  refine lv_icmp_lt (tgt := 68) hx hb dX7_weave_40 (by decide) (fun _ => ?_) (fun c_ => absurd (by decide) c_)
  refine lv_aload_n hx hb dX7_weave_68 rfl (lv_at hl 1 rfl) ?_
  refine r_get hC hw rk5 in_X7_weave_5 ρ hst.1 hst.2 0 (by decide) lk_X7_weave_15 (v := .int 38) rfl dX7_weave_69 ?_
  refine lv_bipush (v := 59) hx hb dX7_weave_72 (by decide) ?_
  refine lv_icmp_lt (tgt := 92) hx hb dX7_weave_74 (by decide) (fun _ => ?_) (fun c_ => absurd (by decide) c_)
  refine lv_aload_n hx hb dX7_weave_92 rfl (lv_at hl 1 rfl) ?_
  refine r_get hC hw rk5 in_X7_weave_5 ρ hst.1 hst.2 0 (by decide) lk_X7_weave_15 (v := .int 38) rfl dX7_weave_93 ?_
  refine lv_lookup (off := 90) (tgt := 186) hx hb dX7_weave_96 (by decide) (by decide) (by decide) ?_
  refine lv_aload_n hx hb dX7_weave_186 rfl (lv_at hl 0 rfl) ?_
  refine lv_aload_n hx hb dX7_weave_187 rfl (lv_at hl 1 rfl) ?_
  refine r_ki hw (r_runV (rest := []) hC hw 5 (c_X7_lookAtThing_38 l _ ρ xa xb xc hd th hst hs hX hN) rk7 (wXl 5 (by decide)) wXc5 1 gX7_weave_X7_lookAtThing rfl rfl rfl (by decide +kernel) ⟨Nat.le_of_ble_eq_true rfl, Nat.le_of_ble_eq_true rfl⟩ rfl hl.1 rfl (Nat.le_of_ble_eq_true rfl) dX7_weave_188 ⟨Nat.le_of_ble_eq_true rfl, Nat.le_of_ble_eq_true rfl⟩) (fun r_2 u_3 H locs h_1 hw => ?_)
  exact r_iret hC hr hlk hw u_3 rfl h_1 (Nat.le_of_ble_eq_true rfl) (Nat.le_of_ble_eq_true rfl) dX7_weave_191

set_option maxHeartbeats 4000000 in
set_option maxRecDepth 100000 in
theorem c_X7_weave_39 (l : Launch) {D : va_G} {q : Nat → ClassId} {ad : Nat → Nat} {κ : KS} {τ : TAU} (sz : Nat) (ρ : Nat) (xa xb xc hd th : Int32) (hst : stepAt q ad κ τ ρ 39 xa xb xc) (hs : okStep 39 xa xb xc)(hX : WFx κ) (hN : nnOp κ 39 xa xb xc) : Met l yX7_weave wsX7_weave (rmz 3 67) (va_Pc [.ref (ad 5), .ref (ad ρ)] (rPre D q (wX q ad κ τ) sz)) (va_Qi (fun (r : Int32) (u : KS) => (r, u) = doR κ hd th 39 xa xb xc) (fun (u : KS) tt => rPo D (rA (wX q ad κ τ) sz) (wX q ad u τ) tt) (rA (wX q ad κ τ) sz)) 0 0 (rA (wX q ad κ τ) sz) := by
  have hi0 : vp_in xa 8 := hs.1
  have hi1 : vp_in xb 8 := hs.2.1
  have hi2 : vp_in xc 8 := hs.2.2
  refine r_start (cc := cX7_weave) (maxL := 2) (ret := (some .int)) (by decide) rfl (Nat.le_of_ble_eq_true rfl) ?_
  intro p e s m below meth c ls hC hr hlk hnm hsz hw hl
  have hx := hC.1
  have hb := hC.2.1
  have hl : lv_has ls 2 [(0, .ref (ad 5)), (1, .ref (ad ρ))] := hl
  refine lv_aload_n hx hb dX7_weave_0 rfl (lv_at hl 1 rfl) ?_
  refine r_get hC hw rk5 in_X7_weave_5 ρ hst.1 hst.2 0 (by decide) lk_X7_weave_15 (v := .int 39) rfl dX7_weave_1 ?_
  refine lv_bipush (v := 39) hx hb dX7_weave_4 (by decide) ?_
  refine lv_icmp_lt (tgt := 34) hx hb dX7_weave_6 (by decide) (fun c_ => absurd c_ (by decide)) (fun _ => ?_)
  refine lv_aload_n hx hb dX7_weave_9 rfl (lv_at hl 1 rfl) ?_
  refine r_get hC hw rk5 in_X7_weave_5 ρ hst.1 hst.2 0 (by decide) lk_X7_weave_15 (v := .int 39) rfl dX7_weave_10 ?_
  refine lv_bipush (v := 48) hx hb dX7_weave_13 (by decide) ?_
  refine lv_icmp_gt (tgt := 34) hx hb dX7_weave_15 (by decide) (fun c_ => absurd c_ (by decide)) (fun _ => ?_)
  refine lv_aload_n hx hb dX7_weave_18 rfl (lv_at hl 0 rfl) ?_
  refine lv_aload_n hx hb dX7_weave_19 rfl (lv_at hl 1 rfl) ?_
  refine lv_aload_n hx hb dX7_weave_20 rfl (lv_at hl 1 rfl) ?_
  refine r_get hC hw rk5 in_X7_weave_5 ρ hst.1 hst.2 0 (by decide) lk_X7_weave_15 (v := .int 39) rfl dX7_weave_21 ?_
  refine lv_bipush (v := 39) hx hb dX7_weave_24 (by decide) ?_
  refine lv_isub hx hb dX7_weave_26 ?_
  refine r_topi (x := 39 - 39) (y := 0) (by decide) ?_
  refine r_ki hw (r_runS (rest := [.ref (ad ρ), .ref (ad 5)]) hC hw (c_X7_rowKind_0 l _ _) 1 gX7_weave_X7_rowKind rfl rfl rfl (by decide +kernel) ⟨Nat.le_of_ble_eq_true rfl, Nat.le_of_ble_eq_true rfl⟩ rfl hl.1 rfl (Nat.le_of_ble_eq_true rfl) dX7_weave_27 ⟨Nat.le_of_ble_eq_true rfl, Nat.le_of_ble_eq_true rfl⟩) (fun r_2 u_3 H locs h_1 hw => ?_)
  subst h_1
  refine r_ki hw (r_runV (rest := []) hC hw 5 (c_X7_getFromRow_39 l _ ρ xa xb xc hd th hst hs hX hN) rk7 (wXl 5 (by decide)) wXc5 2 gX7_weave_X7_getFromRow rfl rfl rfl (by decide +kernel) ⟨Nat.le_of_ble_eq_true rfl, Nat.le_of_ble_eq_true rfl⟩ rfl hl.1 rfl (Nat.le_of_ble_eq_true rfl) dX7_weave_30 ⟨Nat.le_of_ble_eq_true rfl, Nat.le_of_ble_eq_true rfl⟩) (fun r_5 u_6 H locs h_4 hw => ?_)
  exact r_iret hC hr hlk hw u_6 rfl h_4 (Nat.le_of_ble_eq_true rfl) (Nat.le_of_ble_eq_true rfl) dX7_weave_33

set_option maxHeartbeats 4000000 in
set_option maxRecDepth 100000 in
theorem c_X7_weave_40 (l : Launch) {D : va_G} {q : Nat → ClassId} {ad : Nat → Nat} {κ : KS} {τ : TAU} (sz : Nat) (ρ : Nat) (xa xb xc hd th : Int32) (hst : stepAt q ad κ τ ρ 40 xa xb xc) (hs : okStep 40 xa xb xc)(hX : WFx κ) (hN : nnOp κ 40 xa xb xc) : Met l yX7_weave wsX7_weave (rmz 3 67) (va_Pc [.ref (ad 5), .ref (ad ρ)] (rPre D q (wX q ad κ τ) sz)) (va_Qi (fun (r : Int32) (u : KS) => (r, u) = doR κ hd th 40 xa xb xc) (fun (u : KS) tt => rPo D (rA (wX q ad κ τ) sz) (wX q ad u τ) tt) (rA (wX q ad κ τ) sz)) 0 0 (rA (wX q ad κ τ) sz) := by
  have hi0 : vp_in xa 8 := hs.1
  have hi1 : vp_in xb 8 := hs.2.1
  have hi2 : vp_in xc 8 := hs.2.2
  refine r_start (cc := cX7_weave) (maxL := 2) (ret := (some .int)) (by decide) rfl (Nat.le_of_ble_eq_true rfl) ?_
  intro p e s m below meth c ls hC hr hlk hnm hsz hw hl
  have hx := hC.1
  have hb := hC.2.1
  have hl : lv_has ls 2 [(0, .ref (ad 5)), (1, .ref (ad ρ))] := hl
  refine lv_aload_n hx hb dX7_weave_0 rfl (lv_at hl 1 rfl) ?_
  refine r_get hC hw rk5 in_X7_weave_5 ρ hst.1 hst.2 0 (by decide) lk_X7_weave_15 (v := .int 40) rfl dX7_weave_1 ?_
  refine lv_bipush (v := 39) hx hb dX7_weave_4 (by decide) ?_
  refine lv_icmp_lt (tgt := 34) hx hb dX7_weave_6 (by decide) (fun c_ => absurd c_ (by decide)) (fun _ => ?_)
  refine lv_aload_n hx hb dX7_weave_9 rfl (lv_at hl 1 rfl) ?_
  refine r_get hC hw rk5 in_X7_weave_5 ρ hst.1 hst.2 0 (by decide) lk_X7_weave_15 (v := .int 40) rfl dX7_weave_10 ?_
  refine lv_bipush (v := 48) hx hb dX7_weave_13 (by decide) ?_
  refine lv_icmp_gt (tgt := 34) hx hb dX7_weave_15 (by decide) (fun c_ => absurd c_ (by decide)) (fun _ => ?_)
  refine lv_aload_n hx hb dX7_weave_18 rfl (lv_at hl 0 rfl) ?_
  refine lv_aload_n hx hb dX7_weave_19 rfl (lv_at hl 1 rfl) ?_
  refine lv_aload_n hx hb dX7_weave_20 rfl (lv_at hl 1 rfl) ?_
  refine r_get hC hw rk5 in_X7_weave_5 ρ hst.1 hst.2 0 (by decide) lk_X7_weave_15 (v := .int 40) rfl dX7_weave_21 ?_
  refine lv_bipush (v := 39) hx hb dX7_weave_24 (by decide) ?_
  refine lv_isub hx hb dX7_weave_26 ?_
  refine r_topi (x := 40 - 39) (y := 1) (by decide) ?_
  refine r_ki hw (r_runS (rest := [.ref (ad ρ), .ref (ad 5)]) hC hw (c_X7_rowKind_1 l _ _) 1 gX7_weave_X7_rowKind rfl rfl rfl (by decide +kernel) ⟨Nat.le_of_ble_eq_true rfl, Nat.le_of_ble_eq_true rfl⟩ rfl hl.1 rfl (Nat.le_of_ble_eq_true rfl) dX7_weave_27 ⟨Nat.le_of_ble_eq_true rfl, Nat.le_of_ble_eq_true rfl⟩) (fun r_2 u_3 H locs h_1 hw => ?_)
  subst h_1
  refine r_ki hw (r_runV (rest := []) hC hw 5 (c_X7_getFromRow_40 l _ ρ xa xb xc hd th hst hs hX hN) rk7 (wXl 5 (by decide)) wXc5 2 gX7_weave_X7_getFromRow rfl rfl rfl (by decide +kernel) ⟨Nat.le_of_ble_eq_true rfl, Nat.le_of_ble_eq_true rfl⟩ rfl hl.1 rfl (Nat.le_of_ble_eq_true rfl) dX7_weave_30 ⟨Nat.le_of_ble_eq_true rfl, Nat.le_of_ble_eq_true rfl⟩) (fun r_5 u_6 H locs h_4 hw => ?_)
  exact r_iret hC hr hlk hw u_6 rfl h_4 (Nat.le_of_ble_eq_true rfl) (Nat.le_of_ble_eq_true rfl) dX7_weave_33

set_option maxHeartbeats 4000000 in
set_option maxRecDepth 100000 in
theorem c_X7_weave_41 (l : Launch) {D : va_G} {q : Nat → ClassId} {ad : Nat → Nat} {κ : KS} {τ : TAU} (sz : Nat) (ρ : Nat) (xa xb xc hd th : Int32) (hst : stepAt q ad κ τ ρ 41 xa xb xc) (hs : okStep 41 xa xb xc)(hX : WFx κ) (hN : nnOp κ 41 xa xb xc) : Met l yX7_weave wsX7_weave (rmz 3 67) (va_Pc [.ref (ad 5), .ref (ad ρ)] (rPre D q (wX q ad κ τ) sz)) (va_Qi (fun (r : Int32) (u : KS) => (r, u) = doR κ hd th 41 xa xb xc) (fun (u : KS) tt => rPo D (rA (wX q ad κ τ) sz) (wX q ad u τ) tt) (rA (wX q ad κ τ) sz)) 0 0 (rA (wX q ad κ τ) sz) := by
  have hi0 : vp_in xa 8 := hs.1
  have hi1 : vp_in xb 8 := hs.2.1
  have hi2 : vp_in xc 8 := hs.2.2
  refine r_start (cc := cX7_weave) (maxL := 2) (ret := (some .int)) (by decide) rfl (Nat.le_of_ble_eq_true rfl) ?_
  intro p e s m below meth c ls hC hr hlk hnm hsz hw hl
  have hx := hC.1
  have hb := hC.2.1
  have hl : lv_has ls 2 [(0, .ref (ad 5)), (1, .ref (ad ρ))] := hl
  refine lv_aload_n hx hb dX7_weave_0 rfl (lv_at hl 1 rfl) ?_
  refine r_get hC hw rk5 in_X7_weave_5 ρ hst.1 hst.2 0 (by decide) lk_X7_weave_15 (v := .int 41) rfl dX7_weave_1 ?_
  refine lv_bipush (v := 39) hx hb dX7_weave_4 (by decide) ?_
  refine lv_icmp_lt (tgt := 34) hx hb dX7_weave_6 (by decide) (fun c_ => absurd c_ (by decide)) (fun _ => ?_)
  refine lv_aload_n hx hb dX7_weave_9 rfl (lv_at hl 1 rfl) ?_
  refine r_get hC hw rk5 in_X7_weave_5 ρ hst.1 hst.2 0 (by decide) lk_X7_weave_15 (v := .int 41) rfl dX7_weave_10 ?_
  refine lv_bipush (v := 48) hx hb dX7_weave_13 (by decide) ?_
  refine lv_icmp_gt (tgt := 34) hx hb dX7_weave_15 (by decide) (fun c_ => absurd c_ (by decide)) (fun _ => ?_)
  refine lv_aload_n hx hb dX7_weave_18 rfl (lv_at hl 0 rfl) ?_
  refine lv_aload_n hx hb dX7_weave_19 rfl (lv_at hl 1 rfl) ?_
  refine lv_aload_n hx hb dX7_weave_20 rfl (lv_at hl 1 rfl) ?_
  refine r_get hC hw rk5 in_X7_weave_5 ρ hst.1 hst.2 0 (by decide) lk_X7_weave_15 (v := .int 41) rfl dX7_weave_21 ?_
  refine lv_bipush (v := 39) hx hb dX7_weave_24 (by decide) ?_
  refine lv_isub hx hb dX7_weave_26 ?_
  refine r_topi (x := 41 - 39) (y := 2) (by decide) ?_
  refine r_ki hw (r_runS (rest := [.ref (ad ρ), .ref (ad 5)]) hC hw (c_X7_rowKind_2 l _ _) 1 gX7_weave_X7_rowKind rfl rfl rfl (by decide +kernel) ⟨Nat.le_of_ble_eq_true rfl, Nat.le_of_ble_eq_true rfl⟩ rfl hl.1 rfl (Nat.le_of_ble_eq_true rfl) dX7_weave_27 ⟨Nat.le_of_ble_eq_true rfl, Nat.le_of_ble_eq_true rfl⟩) (fun r_2 u_3 H locs h_1 hw => ?_)
  subst h_1
  refine r_ki hw (r_runV (rest := []) hC hw 5 (c_X7_getFromRow_41 l _ ρ xa xb xc hd th hst hs hX hN) rk7 (wXl 5 (by decide)) wXc5 2 gX7_weave_X7_getFromRow rfl rfl rfl (by decide +kernel) ⟨Nat.le_of_ble_eq_true rfl, Nat.le_of_ble_eq_true rfl⟩ rfl hl.1 rfl (Nat.le_of_ble_eq_true rfl) dX7_weave_30 ⟨Nat.le_of_ble_eq_true rfl, Nat.le_of_ble_eq_true rfl⟩) (fun r_5 u_6 H locs h_4 hw => ?_)
  exact r_iret hC hr hlk hw u_6 rfl h_4 (Nat.le_of_ble_eq_true rfl) (Nat.le_of_ble_eq_true rfl) dX7_weave_33

set_option maxHeartbeats 4000000 in
set_option maxRecDepth 100000 in
theorem c_X7_weave_42 (l : Launch) {D : va_G} {q : Nat → ClassId} {ad : Nat → Nat} {κ : KS} {τ : TAU} (sz : Nat) (ρ : Nat) (xa xb xc hd th : Int32) (hst : stepAt q ad κ τ ρ 42 xa xb xc) (hs : okStep 42 xa xb xc)(hX : WFx κ) (hN : nnOp κ 42 xa xb xc) : Met l yX7_weave wsX7_weave (rmz 3 67) (va_Pc [.ref (ad 5), .ref (ad ρ)] (rPre D q (wX q ad κ τ) sz)) (va_Qi (fun (r : Int32) (u : KS) => (r, u) = doR κ hd th 42 xa xb xc) (fun (u : KS) tt => rPo D (rA (wX q ad κ τ) sz) (wX q ad u τ) tt) (rA (wX q ad κ τ) sz)) 0 0 (rA (wX q ad κ τ) sz) := by
  have hi0 : vp_in xa 8 := hs.1
  have hi1 : vp_in xb 8 := hs.2.1
  have hi2 : vp_in xc 8 := hs.2.2
  refine r_start (cc := cX7_weave) (maxL := 2) (ret := (some .int)) (by decide) rfl (Nat.le_of_ble_eq_true rfl) ?_
  intro p e s m below meth c ls hC hr hlk hnm hsz hw hl
  have hx := hC.1
  have hb := hC.2.1
  have hl : lv_has ls 2 [(0, .ref (ad 5)), (1, .ref (ad ρ))] := hl
  refine lv_aload_n hx hb dX7_weave_0 rfl (lv_at hl 1 rfl) ?_
  refine r_get hC hw rk5 in_X7_weave_5 ρ hst.1 hst.2 0 (by decide) lk_X7_weave_15 (v := .int 42) rfl dX7_weave_1 ?_
  refine lv_bipush (v := 39) hx hb dX7_weave_4 (by decide) ?_
  refine lv_icmp_lt (tgt := 34) hx hb dX7_weave_6 (by decide) (fun c_ => absurd c_ (by decide)) (fun _ => ?_)
  refine lv_aload_n hx hb dX7_weave_9 rfl (lv_at hl 1 rfl) ?_
  refine r_get hC hw rk5 in_X7_weave_5 ρ hst.1 hst.2 0 (by decide) lk_X7_weave_15 (v := .int 42) rfl dX7_weave_10 ?_
  refine lv_bipush (v := 48) hx hb dX7_weave_13 (by decide) ?_
  refine lv_icmp_gt (tgt := 34) hx hb dX7_weave_15 (by decide) (fun c_ => absurd c_ (by decide)) (fun _ => ?_)
  refine lv_aload_n hx hb dX7_weave_18 rfl (lv_at hl 0 rfl) ?_
  refine lv_aload_n hx hb dX7_weave_19 rfl (lv_at hl 1 rfl) ?_
  refine lv_aload_n hx hb dX7_weave_20 rfl (lv_at hl 1 rfl) ?_
  refine r_get hC hw rk5 in_X7_weave_5 ρ hst.1 hst.2 0 (by decide) lk_X7_weave_15 (v := .int 42) rfl dX7_weave_21 ?_
  refine lv_bipush (v := 39) hx hb dX7_weave_24 (by decide) ?_
  refine lv_isub hx hb dX7_weave_26 ?_
  refine r_topi (x := 42 - 39) (y := 3) (by decide) ?_
  refine r_ki hw (r_runS (rest := [.ref (ad ρ), .ref (ad 5)]) hC hw (c_X7_rowKind_3 l _ _) 1 gX7_weave_X7_rowKind rfl rfl rfl (by decide +kernel) ⟨Nat.le_of_ble_eq_true rfl, Nat.le_of_ble_eq_true rfl⟩ rfl hl.1 rfl (Nat.le_of_ble_eq_true rfl) dX7_weave_27 ⟨Nat.le_of_ble_eq_true rfl, Nat.le_of_ble_eq_true rfl⟩) (fun r_2 u_3 H locs h_1 hw => ?_)
  subst h_1
  refine r_ki hw (r_runV (rest := []) hC hw 5 (c_X7_getFromRow_42 l _ ρ xa xb xc hd th hst hs hX hN) rk7 (wXl 5 (by decide)) wXc5 2 gX7_weave_X7_getFromRow rfl rfl rfl (by decide +kernel) ⟨Nat.le_of_ble_eq_true rfl, Nat.le_of_ble_eq_true rfl⟩ rfl hl.1 rfl (Nat.le_of_ble_eq_true rfl) dX7_weave_30 ⟨Nat.le_of_ble_eq_true rfl, Nat.le_of_ble_eq_true rfl⟩) (fun r_5 u_6 H locs h_4 hw => ?_)
  exact r_iret hC hr hlk hw u_6 rfl h_4 (Nat.le_of_ble_eq_true rfl) (Nat.le_of_ble_eq_true rfl) dX7_weave_33

set_option maxHeartbeats 4000000 in
set_option maxRecDepth 100000 in
theorem c_X7_weave_43 (l : Launch) {D : va_G} {q : Nat → ClassId} {ad : Nat → Nat} {κ : KS} {τ : TAU} (sz : Nat) (ρ : Nat) (xa xb xc hd th : Int32) (hst : stepAt q ad κ τ ρ 43 xa xb xc) (hs : okStep 43 xa xb xc)(hX : WFx κ) (hN : nnOp κ 43 xa xb xc) : Met l yX7_weave wsX7_weave (rmz 3 67) (va_Pc [.ref (ad 5), .ref (ad ρ)] (rPre D q (wX q ad κ τ) sz)) (va_Qi (fun (r : Int32) (u : KS) => (r, u) = doR κ hd th 43 xa xb xc) (fun (u : KS) tt => rPo D (rA (wX q ad κ τ) sz) (wX q ad u τ) tt) (rA (wX q ad κ τ) sz)) 0 0 (rA (wX q ad κ τ) sz) := by
  have hi0 : vp_in xa 8 := hs.1
  have hi1 : vp_in xb 8 := hs.2.1
  have hi2 : vp_in xc 8 := hs.2.2
  refine r_start (cc := cX7_weave) (maxL := 2) (ret := (some .int)) (by decide) rfl (Nat.le_of_ble_eq_true rfl) ?_
  intro p e s m below meth c ls hC hr hlk hnm hsz hw hl
  have hx := hC.1
  have hb := hC.2.1
  have hl : lv_has ls 2 [(0, .ref (ad 5)), (1, .ref (ad ρ))] := hl
  refine lv_aload_n hx hb dX7_weave_0 rfl (lv_at hl 1 rfl) ?_
  refine r_get hC hw rk5 in_X7_weave_5 ρ hst.1 hst.2 0 (by decide) lk_X7_weave_15 (v := .int 43) rfl dX7_weave_1 ?_
  refine lv_bipush (v := 39) hx hb dX7_weave_4 (by decide) ?_
  refine lv_icmp_lt (tgt := 34) hx hb dX7_weave_6 (by decide) (fun c_ => absurd c_ (by decide)) (fun _ => ?_)
  refine lv_aload_n hx hb dX7_weave_9 rfl (lv_at hl 1 rfl) ?_
  refine r_get hC hw rk5 in_X7_weave_5 ρ hst.1 hst.2 0 (by decide) lk_X7_weave_15 (v := .int 43) rfl dX7_weave_10 ?_
  refine lv_bipush (v := 48) hx hb dX7_weave_13 (by decide) ?_
  refine lv_icmp_gt (tgt := 34) hx hb dX7_weave_15 (by decide) (fun c_ => absurd c_ (by decide)) (fun _ => ?_)
  refine lv_aload_n hx hb dX7_weave_18 rfl (lv_at hl 0 rfl) ?_
  refine lv_aload_n hx hb dX7_weave_19 rfl (lv_at hl 1 rfl) ?_
  refine lv_aload_n hx hb dX7_weave_20 rfl (lv_at hl 1 rfl) ?_
  refine r_get hC hw rk5 in_X7_weave_5 ρ hst.1 hst.2 0 (by decide) lk_X7_weave_15 (v := .int 43) rfl dX7_weave_21 ?_
  refine lv_bipush (v := 39) hx hb dX7_weave_24 (by decide) ?_
  refine lv_isub hx hb dX7_weave_26 ?_
  refine r_topi (x := 43 - 39) (y := 4) (by decide) ?_
  refine r_ki hw (r_runS (rest := [.ref (ad ρ), .ref (ad 5)]) hC hw (c_X7_rowKind_4 l _ _) 1 gX7_weave_X7_rowKind rfl rfl rfl (by decide +kernel) ⟨Nat.le_of_ble_eq_true rfl, Nat.le_of_ble_eq_true rfl⟩ rfl hl.1 rfl (Nat.le_of_ble_eq_true rfl) dX7_weave_27 ⟨Nat.le_of_ble_eq_true rfl, Nat.le_of_ble_eq_true rfl⟩) (fun r_2 u_3 H locs h_1 hw => ?_)
  subst h_1
  refine r_ki hw (r_runV (rest := []) hC hw 5 (c_X7_getFromRow_43 l _ ρ xa xb xc hd th hst hs hX hN) rk7 (wXl 5 (by decide)) wXc5 2 gX7_weave_X7_getFromRow rfl rfl rfl (by decide +kernel) ⟨Nat.le_of_ble_eq_true rfl, Nat.le_of_ble_eq_true rfl⟩ rfl hl.1 rfl (Nat.le_of_ble_eq_true rfl) dX7_weave_30 ⟨Nat.le_of_ble_eq_true rfl, Nat.le_of_ble_eq_true rfl⟩) (fun r_5 u_6 H locs h_4 hw => ?_)
  exact r_iret hC hr hlk hw u_6 rfl h_4 (Nat.le_of_ble_eq_true rfl) (Nat.le_of_ble_eq_true rfl) dX7_weave_33

set_option maxHeartbeats 4000000 in
set_option maxRecDepth 100000 in
theorem c_X7_weave_44 (l : Launch) {D : va_G} {q : Nat → ClassId} {ad : Nat → Nat} {κ : KS} {τ : TAU} (sz : Nat) (ρ : Nat) (xa xb xc hd th : Int32) (hst : stepAt q ad κ τ ρ 44 xa xb xc) (hs : okStep 44 xa xb xc)(hX : WFx κ) (hN : nnOp κ 44 xa xb xc) : Met l yX7_weave wsX7_weave (rmz 3 67) (va_Pc [.ref (ad 5), .ref (ad ρ)] (rPre D q (wX q ad κ τ) sz)) (va_Qi (fun (r : Int32) (u : KS) => (r, u) = doR κ hd th 44 xa xb xc) (fun (u : KS) tt => rPo D (rA (wX q ad κ τ) sz) (wX q ad u τ) tt) (rA (wX q ad κ τ) sz)) 0 0 (rA (wX q ad κ τ) sz) := by
  have hi0 : vp_in xa 4 := hs.1
  have hi1 : vp_in xb 8 := hs.2.1
  have hi2 : vp_in xc 8 := hs.2.2
  refine r_start (cc := cX7_weave) (maxL := 2) (ret := (some .int)) (by decide) rfl (Nat.le_of_ble_eq_true rfl) ?_
  intro p e s m below meth c ls hC hr hlk hnm hsz hw hl
  have hx := hC.1
  have hb := hC.2.1
  have hl : lv_has ls 2 [(0, .ref (ad 5)), (1, .ref (ad ρ))] := hl
  refine lv_aload_n hx hb dX7_weave_0 rfl (lv_at hl 1 rfl) ?_
  refine r_get hC hw rk5 in_X7_weave_5 ρ hst.1 hst.2 0 (by decide) lk_X7_weave_15 (v := .int 44) rfl dX7_weave_1 ?_
  refine lv_bipush (v := 39) hx hb dX7_weave_4 (by decide) ?_
  refine lv_icmp_lt (tgt := 34) hx hb dX7_weave_6 (by decide) (fun c_ => absurd c_ (by decide)) (fun _ => ?_)
  refine lv_aload_n hx hb dX7_weave_9 rfl (lv_at hl 1 rfl) ?_
  refine r_get hC hw rk5 in_X7_weave_5 ρ hst.1 hst.2 0 (by decide) lk_X7_weave_15 (v := .int 44) rfl dX7_weave_10 ?_
  refine lv_bipush (v := 48) hx hb dX7_weave_13 (by decide) ?_
  refine lv_icmp_gt (tgt := 34) hx hb dX7_weave_15 (by decide) (fun c_ => absurd c_ (by decide)) (fun _ => ?_)
  refine lv_aload_n hx hb dX7_weave_18 rfl (lv_at hl 0 rfl) ?_
  refine lv_aload_n hx hb dX7_weave_19 rfl (lv_at hl 1 rfl) ?_
  refine lv_aload_n hx hb dX7_weave_20 rfl (lv_at hl 1 rfl) ?_
  refine r_get hC hw rk5 in_X7_weave_5 ρ hst.1 hst.2 0 (by decide) lk_X7_weave_15 (v := .int 44) rfl dX7_weave_21 ?_
  refine lv_bipush (v := 39) hx hb dX7_weave_24 (by decide) ?_
  refine lv_isub hx hb dX7_weave_26 ?_
  refine r_topi (x := 44 - 39) (y := 5) (by decide) ?_
  refine r_ki hw (r_runS (rest := [.ref (ad ρ), .ref (ad 5)]) hC hw (c_X7_rowKind_5 l _ _) 1 gX7_weave_X7_rowKind rfl rfl rfl (by decide +kernel) ⟨Nat.le_of_ble_eq_true rfl, Nat.le_of_ble_eq_true rfl⟩ rfl hl.1 rfl (Nat.le_of_ble_eq_true rfl) dX7_weave_27 ⟨Nat.le_of_ble_eq_true rfl, Nat.le_of_ble_eq_true rfl⟩) (fun r_2 u_3 H locs h_1 hw => ?_)
  subst h_1
  refine r_ki hw (r_runV (rest := []) hC hw 5 (c_X7_getFromRow_44 l _ ρ xa xb xc hd th hst hs hX hN) rk7 (wXl 5 (by decide)) wXc5 2 gX7_weave_X7_getFromRow rfl rfl rfl (by decide +kernel) ⟨Nat.le_of_ble_eq_true rfl, Nat.le_of_ble_eq_true rfl⟩ rfl hl.1 rfl (Nat.le_of_ble_eq_true rfl) dX7_weave_30 ⟨Nat.le_of_ble_eq_true rfl, Nat.le_of_ble_eq_true rfl⟩) (fun r_5 u_6 H locs h_4 hw => ?_)
  exact r_iret hC hr hlk hw u_6 rfl h_4 (Nat.le_of_ble_eq_true rfl) (Nat.le_of_ble_eq_true rfl) dX7_weave_33

set_option maxHeartbeats 4000000 in
set_option maxRecDepth 100000 in
theorem c_X7_weave_45 (l : Launch) {D : va_G} {q : Nat → ClassId} {ad : Nat → Nat} {κ : KS} {τ : TAU} (sz : Nat) (ρ : Nat) (xa xb xc hd th : Int32) (hst : stepAt q ad κ τ ρ 45 xa xb xc) (hs : okStep 45 xa xb xc)(hX : WFx κ) (hN : nnOp κ 45 xa xb xc) : Met l yX7_weave wsX7_weave (rmz 3 67) (va_Pc [.ref (ad 5), .ref (ad ρ)] (rPre D q (wX q ad κ τ) sz)) (va_Qi (fun (r : Int32) (u : KS) => (r, u) = doR κ hd th 45 xa xb xc) (fun (u : KS) tt => rPo D (rA (wX q ad κ τ) sz) (wX q ad u τ) tt) (rA (wX q ad κ τ) sz)) 0 0 (rA (wX q ad κ τ) sz) := by
  have hi0 : vp_in xa 4 := hs.1
  have hi1 : vp_in xb 8 := hs.2.1
  have hi2 : vp_in xc 8 := hs.2.2
  refine r_start (cc := cX7_weave) (maxL := 2) (ret := (some .int)) (by decide) rfl (Nat.le_of_ble_eq_true rfl) ?_
  intro p e s m below meth c ls hC hr hlk hnm hsz hw hl
  have hx := hC.1
  have hb := hC.2.1
  have hl : lv_has ls 2 [(0, .ref (ad 5)), (1, .ref (ad ρ))] := hl
  refine lv_aload_n hx hb dX7_weave_0 rfl (lv_at hl 1 rfl) ?_
  refine r_get hC hw rk5 in_X7_weave_5 ρ hst.1 hst.2 0 (by decide) lk_X7_weave_15 (v := .int 45) rfl dX7_weave_1 ?_
  refine lv_bipush (v := 39) hx hb dX7_weave_4 (by decide) ?_
  refine lv_icmp_lt (tgt := 34) hx hb dX7_weave_6 (by decide) (fun c_ => absurd c_ (by decide)) (fun _ => ?_)
  refine lv_aload_n hx hb dX7_weave_9 rfl (lv_at hl 1 rfl) ?_
  refine r_get hC hw rk5 in_X7_weave_5 ρ hst.1 hst.2 0 (by decide) lk_X7_weave_15 (v := .int 45) rfl dX7_weave_10 ?_
  refine lv_bipush (v := 48) hx hb dX7_weave_13 (by decide) ?_
  refine lv_icmp_gt (tgt := 34) hx hb dX7_weave_15 (by decide) (fun c_ => absurd c_ (by decide)) (fun _ => ?_)
  refine lv_aload_n hx hb dX7_weave_18 rfl (lv_at hl 0 rfl) ?_
  refine lv_aload_n hx hb dX7_weave_19 rfl (lv_at hl 1 rfl) ?_
  refine lv_aload_n hx hb dX7_weave_20 rfl (lv_at hl 1 rfl) ?_
  refine r_get hC hw rk5 in_X7_weave_5 ρ hst.1 hst.2 0 (by decide) lk_X7_weave_15 (v := .int 45) rfl dX7_weave_21 ?_
  refine lv_bipush (v := 39) hx hb dX7_weave_24 (by decide) ?_
  refine lv_isub hx hb dX7_weave_26 ?_
  refine r_topi (x := 45 - 39) (y := 6) (by decide) ?_
  refine r_ki hw (r_runS (rest := [.ref (ad ρ), .ref (ad 5)]) hC hw (c_X7_rowKind_6 l _ _) 1 gX7_weave_X7_rowKind rfl rfl rfl (by decide +kernel) ⟨Nat.le_of_ble_eq_true rfl, Nat.le_of_ble_eq_true rfl⟩ rfl hl.1 rfl (Nat.le_of_ble_eq_true rfl) dX7_weave_27 ⟨Nat.le_of_ble_eq_true rfl, Nat.le_of_ble_eq_true rfl⟩) (fun r_2 u_3 H locs h_1 hw => ?_)
  subst h_1
  refine r_ki hw (r_runV (rest := []) hC hw 5 (c_X7_getFromRow_45 l _ ρ xa xb xc hd th hst hs hX hN) rk7 (wXl 5 (by decide)) wXc5 2 gX7_weave_X7_getFromRow rfl rfl rfl (by decide +kernel) ⟨Nat.le_of_ble_eq_true rfl, Nat.le_of_ble_eq_true rfl⟩ rfl hl.1 rfl (Nat.le_of_ble_eq_true rfl) dX7_weave_30 ⟨Nat.le_of_ble_eq_true rfl, Nat.le_of_ble_eq_true rfl⟩) (fun r_5 u_6 H locs h_4 hw => ?_)
  exact r_iret hC hr hlk hw u_6 rfl h_4 (Nat.le_of_ble_eq_true rfl) (Nat.le_of_ble_eq_true rfl) dX7_weave_33

set_option maxHeartbeats 4000000 in
set_option maxRecDepth 100000 in
theorem c_X7_weave_46 (l : Launch) {D : va_G} {q : Nat → ClassId} {ad : Nat → Nat} {κ : KS} {τ : TAU} (sz : Nat) (ρ : Nat) (xa xb xc hd th : Int32) (hst : stepAt q ad κ τ ρ 46 xa xb xc) (hs : okStep 46 xa xb xc)(hX : WFx κ) (hN : nnOp κ 46 xa xb xc) : Met l yX7_weave wsX7_weave (rmz 3 67) (va_Pc [.ref (ad 5), .ref (ad ρ)] (rPre D q (wX q ad κ τ) sz)) (va_Qi (fun (r : Int32) (u : KS) => (r, u) = doR κ hd th 46 xa xb xc) (fun (u : KS) tt => rPo D (rA (wX q ad κ τ) sz) (wX q ad u τ) tt) (rA (wX q ad κ τ) sz)) 0 0 (rA (wX q ad κ τ) sz) := by
  have hi0 : vp_in xa 4 := hs.1
  have hi1 : vp_in xb 8 := hs.2.1
  have hi2 : vp_in xc 8 := hs.2.2
  refine r_start (cc := cX7_weave) (maxL := 2) (ret := (some .int)) (by decide) rfl (Nat.le_of_ble_eq_true rfl) ?_
  intro p e s m below meth c ls hC hr hlk hnm hsz hw hl
  have hx := hC.1
  have hb := hC.2.1
  have hl : lv_has ls 2 [(0, .ref (ad 5)), (1, .ref (ad ρ))] := hl
  refine lv_aload_n hx hb dX7_weave_0 rfl (lv_at hl 1 rfl) ?_
  refine r_get hC hw rk5 in_X7_weave_5 ρ hst.1 hst.2 0 (by decide) lk_X7_weave_15 (v := .int 46) rfl dX7_weave_1 ?_
  refine lv_bipush (v := 39) hx hb dX7_weave_4 (by decide) ?_
  refine lv_icmp_lt (tgt := 34) hx hb dX7_weave_6 (by decide) (fun c_ => absurd c_ (by decide)) (fun _ => ?_)
  refine lv_aload_n hx hb dX7_weave_9 rfl (lv_at hl 1 rfl) ?_
  refine r_get hC hw rk5 in_X7_weave_5 ρ hst.1 hst.2 0 (by decide) lk_X7_weave_15 (v := .int 46) rfl dX7_weave_10 ?_
  refine lv_bipush (v := 48) hx hb dX7_weave_13 (by decide) ?_
  refine lv_icmp_gt (tgt := 34) hx hb dX7_weave_15 (by decide) (fun c_ => absurd c_ (by decide)) (fun _ => ?_)
  refine lv_aload_n hx hb dX7_weave_18 rfl (lv_at hl 0 rfl) ?_
  refine lv_aload_n hx hb dX7_weave_19 rfl (lv_at hl 1 rfl) ?_
  refine lv_aload_n hx hb dX7_weave_20 rfl (lv_at hl 1 rfl) ?_
  refine r_get hC hw rk5 in_X7_weave_5 ρ hst.1 hst.2 0 (by decide) lk_X7_weave_15 (v := .int 46) rfl dX7_weave_21 ?_
  refine lv_bipush (v := 39) hx hb dX7_weave_24 (by decide) ?_
  refine lv_isub hx hb dX7_weave_26 ?_
  refine r_topi (x := 46 - 39) (y := 7) (by decide) ?_
  refine r_ki hw (r_runS (rest := [.ref (ad ρ), .ref (ad 5)]) hC hw (c_X7_rowKind_7 l _ _) 1 gX7_weave_X7_rowKind rfl rfl rfl (by decide +kernel) ⟨Nat.le_of_ble_eq_true rfl, Nat.le_of_ble_eq_true rfl⟩ rfl hl.1 rfl (Nat.le_of_ble_eq_true rfl) dX7_weave_27 ⟨Nat.le_of_ble_eq_true rfl, Nat.le_of_ble_eq_true rfl⟩) (fun r_2 u_3 H locs h_1 hw => ?_)
  subst h_1
  refine r_ki hw (r_runV (rest := []) hC hw 5 (c_X7_getFromRow_46 l _ ρ xa xb xc hd th hst hs hX hN) rk7 (wXl 5 (by decide)) wXc5 2 gX7_weave_X7_getFromRow rfl rfl rfl (by decide +kernel) ⟨Nat.le_of_ble_eq_true rfl, Nat.le_of_ble_eq_true rfl⟩ rfl hl.1 rfl (Nat.le_of_ble_eq_true rfl) dX7_weave_30 ⟨Nat.le_of_ble_eq_true rfl, Nat.le_of_ble_eq_true rfl⟩) (fun r_5 u_6 H locs h_4 hw => ?_)
  exact r_iret hC hr hlk hw u_6 rfl h_4 (Nat.le_of_ble_eq_true rfl) (Nat.le_of_ble_eq_true rfl) dX7_weave_33

set_option maxHeartbeats 4000000 in
set_option maxRecDepth 100000 in
theorem c_X7_weave_47 (l : Launch) {D : va_G} {q : Nat → ClassId} {ad : Nat → Nat} {κ : KS} {τ : TAU} (sz : Nat) (ρ : Nat) (xa xb xc hd th : Int32) (hst : stepAt q ad κ τ ρ 47 xa xb xc) (hs : okStep 47 xa xb xc)(hX : WFx κ) (hN : nnOp κ 47 xa xb xc) : Met l yX7_weave wsX7_weave (rmz 3 67) (va_Pc [.ref (ad 5), .ref (ad ρ)] (rPre D q (wX q ad κ τ) sz)) (va_Qi (fun (r : Int32) (u : KS) => (r, u) = doR κ hd th 47 xa xb xc) (fun (u : KS) tt => rPo D (rA (wX q ad κ τ) sz) (wX q ad u τ) tt) (rA (wX q ad κ τ) sz)) 0 0 (rA (wX q ad κ τ) sz) := by
  have hi0 : vp_in xa 8 := hs.1
  have hi1 : vp_in xb 8 := hs.2.1
  have hi2 : vp_in xc 8 := hs.2.2
  refine r_start (cc := cX7_weave) (maxL := 2) (ret := (some .int)) (by decide) rfl (Nat.le_of_ble_eq_true rfl) ?_
  intro p e s m below meth c ls hC hr hlk hnm hsz hw hl
  have hx := hC.1
  have hb := hC.2.1
  have hl : lv_has ls 2 [(0, .ref (ad 5)), (1, .ref (ad ρ))] := hl
  refine lv_aload_n hx hb dX7_weave_0 rfl (lv_at hl 1 rfl) ?_
  refine r_get hC hw rk5 in_X7_weave_5 ρ hst.1 hst.2 0 (by decide) lk_X7_weave_15 (v := .int 47) rfl dX7_weave_1 ?_
  refine lv_bipush (v := 39) hx hb dX7_weave_4 (by decide) ?_
  refine lv_icmp_lt (tgt := 34) hx hb dX7_weave_6 (by decide) (fun c_ => absurd c_ (by decide)) (fun _ => ?_)
  refine lv_aload_n hx hb dX7_weave_9 rfl (lv_at hl 1 rfl) ?_
  refine r_get hC hw rk5 in_X7_weave_5 ρ hst.1 hst.2 0 (by decide) lk_X7_weave_15 (v := .int 47) rfl dX7_weave_10 ?_
  refine lv_bipush (v := 48) hx hb dX7_weave_13 (by decide) ?_
  refine lv_icmp_gt (tgt := 34) hx hb dX7_weave_15 (by decide) (fun c_ => absurd c_ (by decide)) (fun _ => ?_)
  refine lv_aload_n hx hb dX7_weave_18 rfl (lv_at hl 0 rfl) ?_
  refine lv_aload_n hx hb dX7_weave_19 rfl (lv_at hl 1 rfl) ?_
  refine lv_aload_n hx hb dX7_weave_20 rfl (lv_at hl 1 rfl) ?_
  refine r_get hC hw rk5 in_X7_weave_5 ρ hst.1 hst.2 0 (by decide) lk_X7_weave_15 (v := .int 47) rfl dX7_weave_21 ?_
  refine lv_bipush (v := 39) hx hb dX7_weave_24 (by decide) ?_
  refine lv_isub hx hb dX7_weave_26 ?_
  refine r_topi (x := 47 - 39) (y := 8) (by decide) ?_
  refine r_ki hw (r_runS (rest := [.ref (ad ρ), .ref (ad 5)]) hC hw (c_X7_rowKind_8 l _ _) 1 gX7_weave_X7_rowKind rfl rfl rfl (by decide +kernel) ⟨Nat.le_of_ble_eq_true rfl, Nat.le_of_ble_eq_true rfl⟩ rfl hl.1 rfl (Nat.le_of_ble_eq_true rfl) dX7_weave_27 ⟨Nat.le_of_ble_eq_true rfl, Nat.le_of_ble_eq_true rfl⟩) (fun r_2 u_3 H locs h_1 hw => ?_)
  subst h_1
  refine r_ki hw (r_runV (rest := []) hC hw 5 (c_X7_getFromRow_47 l _ ρ xa xb xc hd th hst hs hX hN) rk7 (wXl 5 (by decide)) wXc5 2 gX7_weave_X7_getFromRow rfl rfl rfl (by decide +kernel) ⟨Nat.le_of_ble_eq_true rfl, Nat.le_of_ble_eq_true rfl⟩ rfl hl.1 rfl (Nat.le_of_ble_eq_true rfl) dX7_weave_30 ⟨Nat.le_of_ble_eq_true rfl, Nat.le_of_ble_eq_true rfl⟩) (fun r_5 u_6 H locs h_4 hw => ?_)
  exact r_iret hC hr hlk hw u_6 rfl h_4 (Nat.le_of_ble_eq_true rfl) (Nat.le_of_ble_eq_true rfl) dX7_weave_33

set_option maxHeartbeats 4000000 in
set_option maxRecDepth 100000 in
theorem c_X7_weave_48 (l : Launch) {D : va_G} {q : Nat → ClassId} {ad : Nat → Nat} {κ : KS} {τ : TAU} (sz : Nat) (ρ : Nat) (xa xb xc hd th : Int32) (hst : stepAt q ad κ τ ρ 48 xa xb xc) (hs : okStep 48 xa xb xc)(hX : WFx κ) (hN : nnOp κ 48 xa xb xc) : Met l yX7_weave wsX7_weave (rmz 3 67) (va_Pc [.ref (ad 5), .ref (ad ρ)] (rPre D q (wX q ad κ τ) sz)) (va_Qi (fun (r : Int32) (u : KS) => (r, u) = doR κ hd th 48 xa xb xc) (fun (u : KS) tt => rPo D (rA (wX q ad κ τ) sz) (wX q ad u τ) tt) (rA (wX q ad κ τ) sz)) 0 0 (rA (wX q ad κ τ) sz) := by
  have hi0 : vp_in xa 8 := hs.1
  have hi1 : vp_in xb 8 := hs.2.1
  have hi2 : vp_in xc 8 := hs.2.2
  refine r_start (cc := cX7_weave) (maxL := 2) (ret := (some .int)) (by decide) rfl (Nat.le_of_ble_eq_true rfl) ?_
  intro p e s m below meth c ls hC hr hlk hnm hsz hw hl
  have hx := hC.1
  have hb := hC.2.1
  have hl : lv_has ls 2 [(0, .ref (ad 5)), (1, .ref (ad ρ))] := hl
  refine lv_aload_n hx hb dX7_weave_0 rfl (lv_at hl 1 rfl) ?_
  refine r_get hC hw rk5 in_X7_weave_5 ρ hst.1 hst.2 0 (by decide) lk_X7_weave_15 (v := .int 48) rfl dX7_weave_1 ?_
  refine lv_bipush (v := 39) hx hb dX7_weave_4 (by decide) ?_
  refine lv_icmp_lt (tgt := 34) hx hb dX7_weave_6 (by decide) (fun c_ => absurd c_ (by decide)) (fun _ => ?_)
  refine lv_aload_n hx hb dX7_weave_9 rfl (lv_at hl 1 rfl) ?_
  refine r_get hC hw rk5 in_X7_weave_5 ρ hst.1 hst.2 0 (by decide) lk_X7_weave_15 (v := .int 48) rfl dX7_weave_10 ?_
  refine lv_bipush (v := 48) hx hb dX7_weave_13 (by decide) ?_
  refine lv_icmp_gt (tgt := 34) hx hb dX7_weave_15 (by decide) (fun c_ => absurd c_ (by decide)) (fun _ => ?_)
  refine lv_aload_n hx hb dX7_weave_18 rfl (lv_at hl 0 rfl) ?_
  refine lv_aload_n hx hb dX7_weave_19 rfl (lv_at hl 1 rfl) ?_
  refine lv_aload_n hx hb dX7_weave_20 rfl (lv_at hl 1 rfl) ?_
  refine r_get hC hw rk5 in_X7_weave_5 ρ hst.1 hst.2 0 (by decide) lk_X7_weave_15 (v := .int 48) rfl dX7_weave_21 ?_
  refine lv_bipush (v := 39) hx hb dX7_weave_24 (by decide) ?_
  refine lv_isub hx hb dX7_weave_26 ?_
  refine r_topi (x := 48 - 39) (y := 9) (by decide) ?_
  refine r_ki hw (r_runS (rest := [.ref (ad ρ), .ref (ad 5)]) hC hw (c_X7_rowKind_9 l _ _) 1 gX7_weave_X7_rowKind rfl rfl rfl (by decide +kernel) ⟨Nat.le_of_ble_eq_true rfl, Nat.le_of_ble_eq_true rfl⟩ rfl hl.1 rfl (Nat.le_of_ble_eq_true rfl) dX7_weave_27 ⟨Nat.le_of_ble_eq_true rfl, Nat.le_of_ble_eq_true rfl⟩) (fun r_2 u_3 H locs h_1 hw => ?_)
  subst h_1
  refine r_ki hw (r_runV (rest := []) hC hw 5 (c_X7_getFromRow_48 l _ ρ xa xb xc hd th hst hs hX hN) rk7 (wXl 5 (by decide)) wXc5 2 gX7_weave_X7_getFromRow rfl rfl rfl (by decide +kernel) ⟨Nat.le_of_ble_eq_true rfl, Nat.le_of_ble_eq_true rfl⟩ rfl hl.1 rfl (Nat.le_of_ble_eq_true rfl) dX7_weave_30 ⟨Nat.le_of_ble_eq_true rfl, Nat.le_of_ble_eq_true rfl⟩) (fun r_5 u_6 H locs h_4 hw => ?_)
  exact r_iret hC hr hlk hw u_6 rfl h_4 (Nat.le_of_ble_eq_true rfl) (Nat.le_of_ble_eq_true rfl) dX7_weave_33

set_option maxHeartbeats 4000000 in
set_option maxRecDepth 100000 in
theorem c_X7_weave_49 (l : Launch) {D : va_G} {q : Nat → ClassId} {ad : Nat → Nat} {κ : KS} {τ : TAU} (sz : Nat) (ρ : Nat) (xa xb xc hd th : Int32) (hst : stepAt q ad κ τ ρ 49 xa xb xc) (hs : okStep 49 xa xb xc)(hX : WFx κ) (hN : nnOp κ 49 xa xb xc) : Met l yX7_weave wsX7_weave (rmz 3 67) (va_Pc [.ref (ad 5), .ref (ad ρ)] (rPre D q (wX q ad κ τ) sz)) (va_Qi (fun (r : Int32) (u : KS) => (r, u) = doR κ hd th 49 xa xb xc) (fun (u : KS) tt => rPo D (rA (wX q ad κ τ) sz) (wX q ad u τ) tt) (rA (wX q ad κ τ) sz)) 0 0 (rA (wX q ad κ τ) sz) := by
  have hi0 : vp_in xa 8 := hs.1
  have hi1 : vp_in xb 8 := hs.2.1
  have hi2 : vp_in xc 8 := hs.2.2
  refine r_start (cc := cX7_weave) (maxL := 2) (ret := (some .int)) (by decide) rfl (Nat.le_of_ble_eq_true rfl) ?_
  intro p e s m below meth c ls hC hr hlk hnm hsz hw hl
  have hx := hC.1
  have hb := hC.2.1
  have hl : lv_has ls 2 [(0, .ref (ad 5)), (1, .ref (ad ρ))] := hl
  refine lv_aload_n hx hb dX7_weave_0 rfl (lv_at hl 1 rfl) ?_
  refine r_get hC hw rk5 in_X7_weave_5 ρ hst.1 hst.2 0 (by decide) lk_X7_weave_15 (v := .int 49) rfl dX7_weave_1 ?_
  refine lv_bipush (v := 39) hx hb dX7_weave_4 (by decide) ?_
  refine lv_icmp_lt (tgt := 34) hx hb dX7_weave_6 (by decide) (fun c_ => absurd c_ (by decide)) (fun _ => ?_)
  refine lv_aload_n hx hb dX7_weave_9 rfl (lv_at hl 1 rfl) ?_
  refine r_get hC hw rk5 in_X7_weave_5 ρ hst.1 hst.2 0 (by decide) lk_X7_weave_15 (v := .int 49) rfl dX7_weave_10 ?_
  refine lv_bipush (v := 48) hx hb dX7_weave_13 (by decide) ?_
  refine lv_icmp_gt (tgt := 34) hx hb dX7_weave_15 (by decide) (fun _ => ?_) (fun c_ => absurd (by decide) c_)
  refine lv_aload_n hx hb dX7_weave_34 rfl (lv_at hl 1 rfl) ?_
  refine r_get hC hw rk5 in_X7_weave_5 ρ hst.1 hst.2 0 (by decide) lk_X7_weave_15 (v := .int 49) rfl dX7_weave_35 ?_
  refine lv_bipush (v := 49) hx hb dX7_weave_38 (by decide) ?_
  refine lv_icmp_lt (tgt := 68) hx hb dX7_weave_40 (by decide) (fun c_ => absurd c_ (by decide)) (fun _ => ?_)
  refine lv_aload_n hx hb dX7_weave_43 rfl (lv_at hl 1 rfl) ?_
  refine r_get hC hw rk5 in_X7_weave_5 ρ hst.1 hst.2 0 (by decide) lk_X7_weave_15 (v := .int 49) rfl dX7_weave_44 ?_
  refine lv_bipush (v := 58) hx hb dX7_weave_47 (by decide) ?_
  refine lv_icmp_gt (tgt := 68) hx hb dX7_weave_49 (by decide) (fun c_ => absurd c_ (by decide)) (fun _ => ?_)
  refine lv_aload_n hx hb dX7_weave_52 rfl (lv_at hl 0 rfl) ?_
  refine lv_aload_n hx hb dX7_weave_53 rfl (lv_at hl 1 rfl) ?_
  refine lv_aload_n hx hb dX7_weave_54 rfl (lv_at hl 1 rfl) ?_
  refine r_get hC hw rk5 in_X7_weave_5 ρ hst.1 hst.2 0 (by decide) lk_X7_weave_15 (v := .int 49) rfl dX7_weave_55 ?_
  refine lv_bipush (v := 49) hx hb dX7_weave_58 (by decide) ?_
  refine lv_isub hx hb dX7_weave_60 ?_
  refine r_topi (x := 49 - 49) (y := 0) (by decide) ?_
  refine r_ki hw (r_runS (rest := [.ref (ad ρ), .ref (ad 5)]) hC hw (c_X7_rowKind_0 l _ _) 1 gX7_weave_X7_rowKind rfl rfl rfl (by decide +kernel) ⟨Nat.le_of_ble_eq_true rfl, Nat.le_of_ble_eq_true rfl⟩ rfl hl.1 rfl (Nat.le_of_ble_eq_true rfl) dX7_weave_61 ⟨Nat.le_of_ble_eq_true rfl, Nat.le_of_ble_eq_true rfl⟩) (fun r_2 u_3 H locs h_1 hw => ?_)
  subst h_1
  refine r_ki hw (r_runV (rest := []) hC hw 5 (c_X7_putIntoRow_49 l _ ρ xa xb xc hd th hst hs hX hN) rk7 (wXl 5 (by decide)) wXc5 2 gX7_weave_X7_putIntoRow rfl rfl rfl (by decide +kernel) ⟨Nat.le_of_ble_eq_true rfl, Nat.le_of_ble_eq_true rfl⟩ rfl hl.1 rfl (Nat.le_of_ble_eq_true rfl) dX7_weave_64 ⟨Nat.le_of_ble_eq_true rfl, Nat.le_of_ble_eq_true rfl⟩) (fun r_5 u_6 H locs h_4 hw => ?_)
  exact r_iret hC hr hlk hw u_6 rfl h_4 (Nat.le_of_ble_eq_true rfl) (Nat.le_of_ble_eq_true rfl) dX7_weave_67

set_option maxHeartbeats 4000000 in
set_option maxRecDepth 100000 in
theorem c_X7_weave_50 (l : Launch) {D : va_G} {q : Nat → ClassId} {ad : Nat → Nat} {κ : KS} {τ : TAU} (sz : Nat) (ρ : Nat) (xa xb xc hd th : Int32) (hst : stepAt q ad κ τ ρ 50 xa xb xc) (hs : okStep 50 xa xb xc)(hX : WFx κ) (hN : nnOp κ 50 xa xb xc) : Met l yX7_weave wsX7_weave (rmz 3 67) (va_Pc [.ref (ad 5), .ref (ad ρ)] (rPre D q (wX q ad κ τ) sz)) (va_Qi (fun (r : Int32) (u : KS) => (r, u) = doR κ hd th 50 xa xb xc) (fun (u : KS) tt => rPo D (rA (wX q ad κ τ) sz) (wX q ad u τ) tt) (rA (wX q ad κ τ) sz)) 0 0 (rA (wX q ad κ τ) sz) := by
  have hi0 : vp_in xa 8 := hs.1
  have hi1 : vp_in xb 8 := hs.2.1
  have hi2 : vp_in xc 8 := hs.2.2
  refine r_start (cc := cX7_weave) (maxL := 2) (ret := (some .int)) (by decide) rfl (Nat.le_of_ble_eq_true rfl) ?_
  intro p e s m below meth c ls hC hr hlk hnm hsz hw hl
  have hx := hC.1
  have hb := hC.2.1
  have hl : lv_has ls 2 [(0, .ref (ad 5)), (1, .ref (ad ρ))] := hl
  refine lv_aload_n hx hb dX7_weave_0 rfl (lv_at hl 1 rfl) ?_
  refine r_get hC hw rk5 in_X7_weave_5 ρ hst.1 hst.2 0 (by decide) lk_X7_weave_15 (v := .int 50) rfl dX7_weave_1 ?_
  refine lv_bipush (v := 39) hx hb dX7_weave_4 (by decide) ?_
  refine lv_icmp_lt (tgt := 34) hx hb dX7_weave_6 (by decide) (fun c_ => absurd c_ (by decide)) (fun _ => ?_)
  refine lv_aload_n hx hb dX7_weave_9 rfl (lv_at hl 1 rfl) ?_
  refine r_get hC hw rk5 in_X7_weave_5 ρ hst.1 hst.2 0 (by decide) lk_X7_weave_15 (v := .int 50) rfl dX7_weave_10 ?_
  refine lv_bipush (v := 48) hx hb dX7_weave_13 (by decide) ?_
  refine lv_icmp_gt (tgt := 34) hx hb dX7_weave_15 (by decide) (fun _ => ?_) (fun c_ => absurd (by decide) c_)
  refine lv_aload_n hx hb dX7_weave_34 rfl (lv_at hl 1 rfl) ?_
  refine r_get hC hw rk5 in_X7_weave_5 ρ hst.1 hst.2 0 (by decide) lk_X7_weave_15 (v := .int 50) rfl dX7_weave_35 ?_
  refine lv_bipush (v := 49) hx hb dX7_weave_38 (by decide) ?_
  refine lv_icmp_lt (tgt := 68) hx hb dX7_weave_40 (by decide) (fun c_ => absurd c_ (by decide)) (fun _ => ?_)
  refine lv_aload_n hx hb dX7_weave_43 rfl (lv_at hl 1 rfl) ?_
  refine r_get hC hw rk5 in_X7_weave_5 ρ hst.1 hst.2 0 (by decide) lk_X7_weave_15 (v := .int 50) rfl dX7_weave_44 ?_
  refine lv_bipush (v := 58) hx hb dX7_weave_47 (by decide) ?_
  refine lv_icmp_gt (tgt := 68) hx hb dX7_weave_49 (by decide) (fun c_ => absurd c_ (by decide)) (fun _ => ?_)
  refine lv_aload_n hx hb dX7_weave_52 rfl (lv_at hl 0 rfl) ?_
  refine lv_aload_n hx hb dX7_weave_53 rfl (lv_at hl 1 rfl) ?_
  refine lv_aload_n hx hb dX7_weave_54 rfl (lv_at hl 1 rfl) ?_
  refine r_get hC hw rk5 in_X7_weave_5 ρ hst.1 hst.2 0 (by decide) lk_X7_weave_15 (v := .int 50) rfl dX7_weave_55 ?_
  refine lv_bipush (v := 49) hx hb dX7_weave_58 (by decide) ?_
  refine lv_isub hx hb dX7_weave_60 ?_
  refine r_topi (x := 50 - 49) (y := 1) (by decide) ?_
  refine r_ki hw (r_runS (rest := [.ref (ad ρ), .ref (ad 5)]) hC hw (c_X7_rowKind_1 l _ _) 1 gX7_weave_X7_rowKind rfl rfl rfl (by decide +kernel) ⟨Nat.le_of_ble_eq_true rfl, Nat.le_of_ble_eq_true rfl⟩ rfl hl.1 rfl (Nat.le_of_ble_eq_true rfl) dX7_weave_61 ⟨Nat.le_of_ble_eq_true rfl, Nat.le_of_ble_eq_true rfl⟩) (fun r_2 u_3 H locs h_1 hw => ?_)
  subst h_1
  refine r_ki hw (r_runV (rest := []) hC hw 5 (c_X7_putIntoRow_50 l _ ρ xa xb xc hd th hst hs hX hN) rk7 (wXl 5 (by decide)) wXc5 2 gX7_weave_X7_putIntoRow rfl rfl rfl (by decide +kernel) ⟨Nat.le_of_ble_eq_true rfl, Nat.le_of_ble_eq_true rfl⟩ rfl hl.1 rfl (Nat.le_of_ble_eq_true rfl) dX7_weave_64 ⟨Nat.le_of_ble_eq_true rfl, Nat.le_of_ble_eq_true rfl⟩) (fun r_5 u_6 H locs h_4 hw => ?_)
  exact r_iret hC hr hlk hw u_6 rfl h_4 (Nat.le_of_ble_eq_true rfl) (Nat.le_of_ble_eq_true rfl) dX7_weave_67

set_option maxHeartbeats 4000000 in
set_option maxRecDepth 100000 in
theorem c_X7_weave_51 (l : Launch) {D : va_G} {q : Nat → ClassId} {ad : Nat → Nat} {κ : KS} {τ : TAU} (sz : Nat) (ρ : Nat) (xa xb xc hd th : Int32) (hst : stepAt q ad κ τ ρ 51 xa xb xc) (hs : okStep 51 xa xb xc)(hX : WFx κ) (hN : nnOp κ 51 xa xb xc) : Met l yX7_weave wsX7_weave (rmz 3 67) (va_Pc [.ref (ad 5), .ref (ad ρ)] (rPre D q (wX q ad κ τ) sz)) (va_Qi (fun (r : Int32) (u : KS) => (r, u) = doR κ hd th 51 xa xb xc) (fun (u : KS) tt => rPo D (rA (wX q ad κ τ) sz) (wX q ad u τ) tt) (rA (wX q ad κ τ) sz)) 0 0 (rA (wX q ad κ τ) sz) := by
  have hi0 : vp_in xa 8 := hs.1
  have hi1 : vp_in xb 8 := hs.2.1
  have hi2 : vp_in xc 8 := hs.2.2
  refine r_start (cc := cX7_weave) (maxL := 2) (ret := (some .int)) (by decide) rfl (Nat.le_of_ble_eq_true rfl) ?_
  intro p e s m below meth c ls hC hr hlk hnm hsz hw hl
  have hx := hC.1
  have hb := hC.2.1
  have hl : lv_has ls 2 [(0, .ref (ad 5)), (1, .ref (ad ρ))] := hl
  refine lv_aload_n hx hb dX7_weave_0 rfl (lv_at hl 1 rfl) ?_
  refine r_get hC hw rk5 in_X7_weave_5 ρ hst.1 hst.2 0 (by decide) lk_X7_weave_15 (v := .int 51) rfl dX7_weave_1 ?_
  refine lv_bipush (v := 39) hx hb dX7_weave_4 (by decide) ?_
  refine lv_icmp_lt (tgt := 34) hx hb dX7_weave_6 (by decide) (fun c_ => absurd c_ (by decide)) (fun _ => ?_)
  refine lv_aload_n hx hb dX7_weave_9 rfl (lv_at hl 1 rfl) ?_
  refine r_get hC hw rk5 in_X7_weave_5 ρ hst.1 hst.2 0 (by decide) lk_X7_weave_15 (v := .int 51) rfl dX7_weave_10 ?_
  refine lv_bipush (v := 48) hx hb dX7_weave_13 (by decide) ?_
  refine lv_icmp_gt (tgt := 34) hx hb dX7_weave_15 (by decide) (fun _ => ?_) (fun c_ => absurd (by decide) c_)
  refine lv_aload_n hx hb dX7_weave_34 rfl (lv_at hl 1 rfl) ?_
  refine r_get hC hw rk5 in_X7_weave_5 ρ hst.1 hst.2 0 (by decide) lk_X7_weave_15 (v := .int 51) rfl dX7_weave_35 ?_
  refine lv_bipush (v := 49) hx hb dX7_weave_38 (by decide) ?_
  refine lv_icmp_lt (tgt := 68) hx hb dX7_weave_40 (by decide) (fun c_ => absurd c_ (by decide)) (fun _ => ?_)
  refine lv_aload_n hx hb dX7_weave_43 rfl (lv_at hl 1 rfl) ?_
  refine r_get hC hw rk5 in_X7_weave_5 ρ hst.1 hst.2 0 (by decide) lk_X7_weave_15 (v := .int 51) rfl dX7_weave_44 ?_
  refine lv_bipush (v := 58) hx hb dX7_weave_47 (by decide) ?_
  refine lv_icmp_gt (tgt := 68) hx hb dX7_weave_49 (by decide) (fun c_ => absurd c_ (by decide)) (fun _ => ?_)
  refine lv_aload_n hx hb dX7_weave_52 rfl (lv_at hl 0 rfl) ?_
  refine lv_aload_n hx hb dX7_weave_53 rfl (lv_at hl 1 rfl) ?_
  refine lv_aload_n hx hb dX7_weave_54 rfl (lv_at hl 1 rfl) ?_
  refine r_get hC hw rk5 in_X7_weave_5 ρ hst.1 hst.2 0 (by decide) lk_X7_weave_15 (v := .int 51) rfl dX7_weave_55 ?_
  refine lv_bipush (v := 49) hx hb dX7_weave_58 (by decide) ?_
  refine lv_isub hx hb dX7_weave_60 ?_
  refine r_topi (x := 51 - 49) (y := 2) (by decide) ?_
  refine r_ki hw (r_runS (rest := [.ref (ad ρ), .ref (ad 5)]) hC hw (c_X7_rowKind_2 l _ _) 1 gX7_weave_X7_rowKind rfl rfl rfl (by decide +kernel) ⟨Nat.le_of_ble_eq_true rfl, Nat.le_of_ble_eq_true rfl⟩ rfl hl.1 rfl (Nat.le_of_ble_eq_true rfl) dX7_weave_61 ⟨Nat.le_of_ble_eq_true rfl, Nat.le_of_ble_eq_true rfl⟩) (fun r_2 u_3 H locs h_1 hw => ?_)
  subst h_1
  refine r_ki hw (r_runV (rest := []) hC hw 5 (c_X7_putIntoRow_51 l _ ρ xa xb xc hd th hst hs hX hN) rk7 (wXl 5 (by decide)) wXc5 2 gX7_weave_X7_putIntoRow rfl rfl rfl (by decide +kernel) ⟨Nat.le_of_ble_eq_true rfl, Nat.le_of_ble_eq_true rfl⟩ rfl hl.1 rfl (Nat.le_of_ble_eq_true rfl) dX7_weave_64 ⟨Nat.le_of_ble_eq_true rfl, Nat.le_of_ble_eq_true rfl⟩) (fun r_5 u_6 H locs h_4 hw => ?_)
  exact r_iret hC hr hlk hw u_6 rfl h_4 (Nat.le_of_ble_eq_true rfl) (Nat.le_of_ble_eq_true rfl) dX7_weave_67

set_option maxHeartbeats 4000000 in
set_option maxRecDepth 100000 in
theorem c_X7_weave_52 (l : Launch) {D : va_G} {q : Nat → ClassId} {ad : Nat → Nat} {κ : KS} {τ : TAU} (sz : Nat) (ρ : Nat) (xa xb xc hd th : Int32) (hst : stepAt q ad κ τ ρ 52 xa xb xc) (hs : okStep 52 xa xb xc)(hX : WFx κ) (hN : nnOp κ 52 xa xb xc) : Met l yX7_weave wsX7_weave (rmz 3 67) (va_Pc [.ref (ad 5), .ref (ad ρ)] (rPre D q (wX q ad κ τ) sz)) (va_Qi (fun (r : Int32) (u : KS) => (r, u) = doR κ hd th 52 xa xb xc) (fun (u : KS) tt => rPo D (rA (wX q ad κ τ) sz) (wX q ad u τ) tt) (rA (wX q ad κ τ) sz)) 0 0 (rA (wX q ad κ τ) sz) := by
  have hi0 : vp_in xa 8 := hs.1
  have hi1 : vp_in xb 8 := hs.2.1
  have hi2 : vp_in xc 8 := hs.2.2
  refine r_start (cc := cX7_weave) (maxL := 2) (ret := (some .int)) (by decide) rfl (Nat.le_of_ble_eq_true rfl) ?_
  intro p e s m below meth c ls hC hr hlk hnm hsz hw hl
  have hx := hC.1
  have hb := hC.2.1
  have hl : lv_has ls 2 [(0, .ref (ad 5)), (1, .ref (ad ρ))] := hl
  refine lv_aload_n hx hb dX7_weave_0 rfl (lv_at hl 1 rfl) ?_
  refine r_get hC hw rk5 in_X7_weave_5 ρ hst.1 hst.2 0 (by decide) lk_X7_weave_15 (v := .int 52) rfl dX7_weave_1 ?_
  refine lv_bipush (v := 39) hx hb dX7_weave_4 (by decide) ?_
  refine lv_icmp_lt (tgt := 34) hx hb dX7_weave_6 (by decide) (fun c_ => absurd c_ (by decide)) (fun _ => ?_)
  refine lv_aload_n hx hb dX7_weave_9 rfl (lv_at hl 1 rfl) ?_
  refine r_get hC hw rk5 in_X7_weave_5 ρ hst.1 hst.2 0 (by decide) lk_X7_weave_15 (v := .int 52) rfl dX7_weave_10 ?_
  refine lv_bipush (v := 48) hx hb dX7_weave_13 (by decide) ?_
  refine lv_icmp_gt (tgt := 34) hx hb dX7_weave_15 (by decide) (fun _ => ?_) (fun c_ => absurd (by decide) c_)
  refine lv_aload_n hx hb dX7_weave_34 rfl (lv_at hl 1 rfl) ?_
  refine r_get hC hw rk5 in_X7_weave_5 ρ hst.1 hst.2 0 (by decide) lk_X7_weave_15 (v := .int 52) rfl dX7_weave_35 ?_
  refine lv_bipush (v := 49) hx hb dX7_weave_38 (by decide) ?_
  refine lv_icmp_lt (tgt := 68) hx hb dX7_weave_40 (by decide) (fun c_ => absurd c_ (by decide)) (fun _ => ?_)
  refine lv_aload_n hx hb dX7_weave_43 rfl (lv_at hl 1 rfl) ?_
  refine r_get hC hw rk5 in_X7_weave_5 ρ hst.1 hst.2 0 (by decide) lk_X7_weave_15 (v := .int 52) rfl dX7_weave_44 ?_
  refine lv_bipush (v := 58) hx hb dX7_weave_47 (by decide) ?_
  refine lv_icmp_gt (tgt := 68) hx hb dX7_weave_49 (by decide) (fun c_ => absurd c_ (by decide)) (fun _ => ?_)
  refine lv_aload_n hx hb dX7_weave_52 rfl (lv_at hl 0 rfl) ?_
  refine lv_aload_n hx hb dX7_weave_53 rfl (lv_at hl 1 rfl) ?_
  refine lv_aload_n hx hb dX7_weave_54 rfl (lv_at hl 1 rfl) ?_
  refine r_get hC hw rk5 in_X7_weave_5 ρ hst.1 hst.2 0 (by decide) lk_X7_weave_15 (v := .int 52) rfl dX7_weave_55 ?_
  refine lv_bipush (v := 49) hx hb dX7_weave_58 (by decide) ?_
  refine lv_isub hx hb dX7_weave_60 ?_
  refine r_topi (x := 52 - 49) (y := 3) (by decide) ?_
  refine r_ki hw (r_runS (rest := [.ref (ad ρ), .ref (ad 5)]) hC hw (c_X7_rowKind_3 l _ _) 1 gX7_weave_X7_rowKind rfl rfl rfl (by decide +kernel) ⟨Nat.le_of_ble_eq_true rfl, Nat.le_of_ble_eq_true rfl⟩ rfl hl.1 rfl (Nat.le_of_ble_eq_true rfl) dX7_weave_61 ⟨Nat.le_of_ble_eq_true rfl, Nat.le_of_ble_eq_true rfl⟩) (fun r_2 u_3 H locs h_1 hw => ?_)
  subst h_1
  refine r_ki hw (r_runV (rest := []) hC hw 5 (c_X7_putIntoRow_52 l _ ρ xa xb xc hd th hst hs hX hN) rk7 (wXl 5 (by decide)) wXc5 2 gX7_weave_X7_putIntoRow rfl rfl rfl (by decide +kernel) ⟨Nat.le_of_ble_eq_true rfl, Nat.le_of_ble_eq_true rfl⟩ rfl hl.1 rfl (Nat.le_of_ble_eq_true rfl) dX7_weave_64 ⟨Nat.le_of_ble_eq_true rfl, Nat.le_of_ble_eq_true rfl⟩) (fun r_5 u_6 H locs h_4 hw => ?_)
  exact r_iret hC hr hlk hw u_6 rfl h_4 (Nat.le_of_ble_eq_true rfl) (Nat.le_of_ble_eq_true rfl) dX7_weave_67

set_option maxHeartbeats 4000000 in
set_option maxRecDepth 100000 in
theorem c_X7_weave_53 (l : Launch) {D : va_G} {q : Nat → ClassId} {ad : Nat → Nat} {κ : KS} {τ : TAU} (sz : Nat) (ρ : Nat) (xa xb xc hd th : Int32) (hst : stepAt q ad κ τ ρ 53 xa xb xc) (hs : okStep 53 xa xb xc)(hX : WFx κ) (hN : nnOp κ 53 xa xb xc) : Met l yX7_weave wsX7_weave (rmz 3 67) (va_Pc [.ref (ad 5), .ref (ad ρ)] (rPre D q (wX q ad κ τ) sz)) (va_Qi (fun (r : Int32) (u : KS) => (r, u) = doR κ hd th 53 xa xb xc) (fun (u : KS) tt => rPo D (rA (wX q ad κ τ) sz) (wX q ad u τ) tt) (rA (wX q ad κ τ) sz)) 0 0 (rA (wX q ad κ τ) sz) := by
  have hi0 : vp_in xa 8 := hs.1
  have hi1 : vp_in xb 8 := hs.2.1
  have hi2 : vp_in xc 8 := hs.2.2
  refine r_start (cc := cX7_weave) (maxL := 2) (ret := (some .int)) (by decide) rfl (Nat.le_of_ble_eq_true rfl) ?_
  intro p e s m below meth c ls hC hr hlk hnm hsz hw hl
  have hx := hC.1
  have hb := hC.2.1
  have hl : lv_has ls 2 [(0, .ref (ad 5)), (1, .ref (ad ρ))] := hl
  refine lv_aload_n hx hb dX7_weave_0 rfl (lv_at hl 1 rfl) ?_
  refine r_get hC hw rk5 in_X7_weave_5 ρ hst.1 hst.2 0 (by decide) lk_X7_weave_15 (v := .int 53) rfl dX7_weave_1 ?_
  refine lv_bipush (v := 39) hx hb dX7_weave_4 (by decide) ?_
  refine lv_icmp_lt (tgt := 34) hx hb dX7_weave_6 (by decide) (fun c_ => absurd c_ (by decide)) (fun _ => ?_)
  refine lv_aload_n hx hb dX7_weave_9 rfl (lv_at hl 1 rfl) ?_
  refine r_get hC hw rk5 in_X7_weave_5 ρ hst.1 hst.2 0 (by decide) lk_X7_weave_15 (v := .int 53) rfl dX7_weave_10 ?_
  refine lv_bipush (v := 48) hx hb dX7_weave_13 (by decide) ?_
  refine lv_icmp_gt (tgt := 34) hx hb dX7_weave_15 (by decide) (fun _ => ?_) (fun c_ => absurd (by decide) c_)
  refine lv_aload_n hx hb dX7_weave_34 rfl (lv_at hl 1 rfl) ?_
  refine r_get hC hw rk5 in_X7_weave_5 ρ hst.1 hst.2 0 (by decide) lk_X7_weave_15 (v := .int 53) rfl dX7_weave_35 ?_
  refine lv_bipush (v := 49) hx hb dX7_weave_38 (by decide) ?_
  refine lv_icmp_lt (tgt := 68) hx hb dX7_weave_40 (by decide) (fun c_ => absurd c_ (by decide)) (fun _ => ?_)
  refine lv_aload_n hx hb dX7_weave_43 rfl (lv_at hl 1 rfl) ?_
  refine r_get hC hw rk5 in_X7_weave_5 ρ hst.1 hst.2 0 (by decide) lk_X7_weave_15 (v := .int 53) rfl dX7_weave_44 ?_
  refine lv_bipush (v := 58) hx hb dX7_weave_47 (by decide) ?_
  refine lv_icmp_gt (tgt := 68) hx hb dX7_weave_49 (by decide) (fun c_ => absurd c_ (by decide)) (fun _ => ?_)
  refine lv_aload_n hx hb dX7_weave_52 rfl (lv_at hl 0 rfl) ?_
  refine lv_aload_n hx hb dX7_weave_53 rfl (lv_at hl 1 rfl) ?_
  refine lv_aload_n hx hb dX7_weave_54 rfl (lv_at hl 1 rfl) ?_
  refine r_get hC hw rk5 in_X7_weave_5 ρ hst.1 hst.2 0 (by decide) lk_X7_weave_15 (v := .int 53) rfl dX7_weave_55 ?_
  refine lv_bipush (v := 49) hx hb dX7_weave_58 (by decide) ?_
  refine lv_isub hx hb dX7_weave_60 ?_
  refine r_topi (x := 53 - 49) (y := 4) (by decide) ?_
  refine r_ki hw (r_runS (rest := [.ref (ad ρ), .ref (ad 5)]) hC hw (c_X7_rowKind_4 l _ _) 1 gX7_weave_X7_rowKind rfl rfl rfl (by decide +kernel) ⟨Nat.le_of_ble_eq_true rfl, Nat.le_of_ble_eq_true rfl⟩ rfl hl.1 rfl (Nat.le_of_ble_eq_true rfl) dX7_weave_61 ⟨Nat.le_of_ble_eq_true rfl, Nat.le_of_ble_eq_true rfl⟩) (fun r_2 u_3 H locs h_1 hw => ?_)
  subst h_1
  refine r_ki hw (r_runV (rest := []) hC hw 5 (c_X7_putIntoRow_53 l _ ρ xa xb xc hd th hst hs hX hN) rk7 (wXl 5 (by decide)) wXc5 2 gX7_weave_X7_putIntoRow rfl rfl rfl (by decide +kernel) ⟨Nat.le_of_ble_eq_true rfl, Nat.le_of_ble_eq_true rfl⟩ rfl hl.1 rfl (Nat.le_of_ble_eq_true rfl) dX7_weave_64 ⟨Nat.le_of_ble_eq_true rfl, Nat.le_of_ble_eq_true rfl⟩) (fun r_5 u_6 H locs h_4 hw => ?_)
  exact r_iret hC hr hlk hw u_6 rfl h_4 (Nat.le_of_ble_eq_true rfl) (Nat.le_of_ble_eq_true rfl) dX7_weave_67

set_option maxHeartbeats 4000000 in
set_option maxRecDepth 100000 in
theorem c_X7_weave_54 (l : Launch) {D : va_G} {q : Nat → ClassId} {ad : Nat → Nat} {κ : KS} {τ : TAU} (sz : Nat) (ρ : Nat) (xa xb xc hd th : Int32) (hst : stepAt q ad κ τ ρ 54 xa xb xc) (hs : okStep 54 xa xb xc)(hX : WFx κ) (hN : nnOp κ 54 xa xb xc) : Met l yX7_weave wsX7_weave (rmz 3 67) (va_Pc [.ref (ad 5), .ref (ad ρ)] (rPre D q (wX q ad κ τ) sz)) (va_Qi (fun (r : Int32) (u : KS) => (r, u) = doR κ hd th 54 xa xb xc) (fun (u : KS) tt => rPo D (rA (wX q ad κ τ) sz) (wX q ad u τ) tt) (rA (wX q ad κ τ) sz)) 0 0 (rA (wX q ad κ τ) sz) := by
  have hi0 : vp_in xa 4 := hs.1
  have hi1 : vp_in xb 8 := hs.2.1
  have hi2 : vp_in xc 8 := hs.2.2
  refine r_start (cc := cX7_weave) (maxL := 2) (ret := (some .int)) (by decide) rfl (Nat.le_of_ble_eq_true rfl) ?_
  intro p e s m below meth c ls hC hr hlk hnm hsz hw hl
  have hx := hC.1
  have hb := hC.2.1
  have hl : lv_has ls 2 [(0, .ref (ad 5)), (1, .ref (ad ρ))] := hl
  refine lv_aload_n hx hb dX7_weave_0 rfl (lv_at hl 1 rfl) ?_
  refine r_get hC hw rk5 in_X7_weave_5 ρ hst.1 hst.2 0 (by decide) lk_X7_weave_15 (v := .int 54) rfl dX7_weave_1 ?_
  refine lv_bipush (v := 39) hx hb dX7_weave_4 (by decide) ?_
  refine lv_icmp_lt (tgt := 34) hx hb dX7_weave_6 (by decide) (fun c_ => absurd c_ (by decide)) (fun _ => ?_)
  refine lv_aload_n hx hb dX7_weave_9 rfl (lv_at hl 1 rfl) ?_
  refine r_get hC hw rk5 in_X7_weave_5 ρ hst.1 hst.2 0 (by decide) lk_X7_weave_15 (v := .int 54) rfl dX7_weave_10 ?_
  refine lv_bipush (v := 48) hx hb dX7_weave_13 (by decide) ?_
  refine lv_icmp_gt (tgt := 34) hx hb dX7_weave_15 (by decide) (fun _ => ?_) (fun c_ => absurd (by decide) c_)
  refine lv_aload_n hx hb dX7_weave_34 rfl (lv_at hl 1 rfl) ?_
  refine r_get hC hw rk5 in_X7_weave_5 ρ hst.1 hst.2 0 (by decide) lk_X7_weave_15 (v := .int 54) rfl dX7_weave_35 ?_
  refine lv_bipush (v := 49) hx hb dX7_weave_38 (by decide) ?_
  refine lv_icmp_lt (tgt := 68) hx hb dX7_weave_40 (by decide) (fun c_ => absurd c_ (by decide)) (fun _ => ?_)
  refine lv_aload_n hx hb dX7_weave_43 rfl (lv_at hl 1 rfl) ?_
  refine r_get hC hw rk5 in_X7_weave_5 ρ hst.1 hst.2 0 (by decide) lk_X7_weave_15 (v := .int 54) rfl dX7_weave_44 ?_
  refine lv_bipush (v := 58) hx hb dX7_weave_47 (by decide) ?_
  refine lv_icmp_gt (tgt := 68) hx hb dX7_weave_49 (by decide) (fun c_ => absurd c_ (by decide)) (fun _ => ?_)
  refine lv_aload_n hx hb dX7_weave_52 rfl (lv_at hl 0 rfl) ?_
  refine lv_aload_n hx hb dX7_weave_53 rfl (lv_at hl 1 rfl) ?_
  refine lv_aload_n hx hb dX7_weave_54 rfl (lv_at hl 1 rfl) ?_
  refine r_get hC hw rk5 in_X7_weave_5 ρ hst.1 hst.2 0 (by decide) lk_X7_weave_15 (v := .int 54) rfl dX7_weave_55 ?_
  refine lv_bipush (v := 49) hx hb dX7_weave_58 (by decide) ?_
  refine lv_isub hx hb dX7_weave_60 ?_
  refine r_topi (x := 54 - 49) (y := 5) (by decide) ?_
  refine r_ki hw (r_runS (rest := [.ref (ad ρ), .ref (ad 5)]) hC hw (c_X7_rowKind_5 l _ _) 1 gX7_weave_X7_rowKind rfl rfl rfl (by decide +kernel) ⟨Nat.le_of_ble_eq_true rfl, Nat.le_of_ble_eq_true rfl⟩ rfl hl.1 rfl (Nat.le_of_ble_eq_true rfl) dX7_weave_61 ⟨Nat.le_of_ble_eq_true rfl, Nat.le_of_ble_eq_true rfl⟩) (fun r_2 u_3 H locs h_1 hw => ?_)
  subst h_1
  refine r_ki hw (r_runV (rest := []) hC hw 5 (c_X7_putIntoRow_54 l _ ρ xa xb xc hd th hst hs hX hN) rk7 (wXl 5 (by decide)) wXc5 2 gX7_weave_X7_putIntoRow rfl rfl rfl (by decide +kernel) ⟨Nat.le_of_ble_eq_true rfl, Nat.le_of_ble_eq_true rfl⟩ rfl hl.1 rfl (Nat.le_of_ble_eq_true rfl) dX7_weave_64 ⟨Nat.le_of_ble_eq_true rfl, Nat.le_of_ble_eq_true rfl⟩) (fun r_5 u_6 H locs h_4 hw => ?_)
  exact r_iret hC hr hlk hw u_6 rfl h_4 (Nat.le_of_ble_eq_true rfl) (Nat.le_of_ble_eq_true rfl) dX7_weave_67

set_option maxHeartbeats 4000000 in
set_option maxRecDepth 100000 in
theorem c_X7_weave_55 (l : Launch) {D : va_G} {q : Nat → ClassId} {ad : Nat → Nat} {κ : KS} {τ : TAU} (sz : Nat) (ρ : Nat) (xa xb xc hd th : Int32) (hst : stepAt q ad κ τ ρ 55 xa xb xc) (hs : okStep 55 xa xb xc)(hX : WFx κ) (hN : nnOp κ 55 xa xb xc) : Met l yX7_weave wsX7_weave (rmz 3 67) (va_Pc [.ref (ad 5), .ref (ad ρ)] (rPre D q (wX q ad κ τ) sz)) (va_Qi (fun (r : Int32) (u : KS) => (r, u) = doR κ hd th 55 xa xb xc) (fun (u : KS) tt => rPo D (rA (wX q ad κ τ) sz) (wX q ad u τ) tt) (rA (wX q ad κ τ) sz)) 0 0 (rA (wX q ad κ τ) sz) := by
  have hi0 : vp_in xa 4 := hs.1
  have hi1 : vp_in xb 8 := hs.2.1
  have hi2 : vp_in xc 8 := hs.2.2
  refine r_start (cc := cX7_weave) (maxL := 2) (ret := (some .int)) (by decide) rfl (Nat.le_of_ble_eq_true rfl) ?_
  intro p e s m below meth c ls hC hr hlk hnm hsz hw hl
  have hx := hC.1
  have hb := hC.2.1
  have hl : lv_has ls 2 [(0, .ref (ad 5)), (1, .ref (ad ρ))] := hl
  refine lv_aload_n hx hb dX7_weave_0 rfl (lv_at hl 1 rfl) ?_
  refine r_get hC hw rk5 in_X7_weave_5 ρ hst.1 hst.2 0 (by decide) lk_X7_weave_15 (v := .int 55) rfl dX7_weave_1 ?_
  refine lv_bipush (v := 39) hx hb dX7_weave_4 (by decide) ?_
  refine lv_icmp_lt (tgt := 34) hx hb dX7_weave_6 (by decide) (fun c_ => absurd c_ (by decide)) (fun _ => ?_)
  refine lv_aload_n hx hb dX7_weave_9 rfl (lv_at hl 1 rfl) ?_
  refine r_get hC hw rk5 in_X7_weave_5 ρ hst.1 hst.2 0 (by decide) lk_X7_weave_15 (v := .int 55) rfl dX7_weave_10 ?_
  refine lv_bipush (v := 48) hx hb dX7_weave_13 (by decide) ?_
  refine lv_icmp_gt (tgt := 34) hx hb dX7_weave_15 (by decide) (fun _ => ?_) (fun c_ => absurd (by decide) c_)
  refine lv_aload_n hx hb dX7_weave_34 rfl (lv_at hl 1 rfl) ?_
  refine r_get hC hw rk5 in_X7_weave_5 ρ hst.1 hst.2 0 (by decide) lk_X7_weave_15 (v := .int 55) rfl dX7_weave_35 ?_
  refine lv_bipush (v := 49) hx hb dX7_weave_38 (by decide) ?_
  refine lv_icmp_lt (tgt := 68) hx hb dX7_weave_40 (by decide) (fun c_ => absurd c_ (by decide)) (fun _ => ?_)
  refine lv_aload_n hx hb dX7_weave_43 rfl (lv_at hl 1 rfl) ?_
  refine r_get hC hw rk5 in_X7_weave_5 ρ hst.1 hst.2 0 (by decide) lk_X7_weave_15 (v := .int 55) rfl dX7_weave_44 ?_
  refine lv_bipush (v := 58) hx hb dX7_weave_47 (by decide) ?_
  refine lv_icmp_gt (tgt := 68) hx hb dX7_weave_49 (by decide) (fun c_ => absurd c_ (by decide)) (fun _ => ?_)
  refine lv_aload_n hx hb dX7_weave_52 rfl (lv_at hl 0 rfl) ?_
  refine lv_aload_n hx hb dX7_weave_53 rfl (lv_at hl 1 rfl) ?_
  refine lv_aload_n hx hb dX7_weave_54 rfl (lv_at hl 1 rfl) ?_
  refine r_get hC hw rk5 in_X7_weave_5 ρ hst.1 hst.2 0 (by decide) lk_X7_weave_15 (v := .int 55) rfl dX7_weave_55 ?_
  refine lv_bipush (v := 49) hx hb dX7_weave_58 (by decide) ?_
  refine lv_isub hx hb dX7_weave_60 ?_
  refine r_topi (x := 55 - 49) (y := 6) (by decide) ?_
  refine r_ki hw (r_runS (rest := [.ref (ad ρ), .ref (ad 5)]) hC hw (c_X7_rowKind_6 l _ _) 1 gX7_weave_X7_rowKind rfl rfl rfl (by decide +kernel) ⟨Nat.le_of_ble_eq_true rfl, Nat.le_of_ble_eq_true rfl⟩ rfl hl.1 rfl (Nat.le_of_ble_eq_true rfl) dX7_weave_61 ⟨Nat.le_of_ble_eq_true rfl, Nat.le_of_ble_eq_true rfl⟩) (fun r_2 u_3 H locs h_1 hw => ?_)
  subst h_1
  refine r_ki hw (r_runV (rest := []) hC hw 5 (c_X7_putIntoRow_55 l _ ρ xa xb xc hd th hst hs hX hN) rk7 (wXl 5 (by decide)) wXc5 2 gX7_weave_X7_putIntoRow rfl rfl rfl (by decide +kernel) ⟨Nat.le_of_ble_eq_true rfl, Nat.le_of_ble_eq_true rfl⟩ rfl hl.1 rfl (Nat.le_of_ble_eq_true rfl) dX7_weave_64 ⟨Nat.le_of_ble_eq_true rfl, Nat.le_of_ble_eq_true rfl⟩) (fun r_5 u_6 H locs h_4 hw => ?_)
  exact r_iret hC hr hlk hw u_6 rfl h_4 (Nat.le_of_ble_eq_true rfl) (Nat.le_of_ble_eq_true rfl) dX7_weave_67

set_option maxHeartbeats 4000000 in
set_option maxRecDepth 100000 in
theorem c_X7_weave_56 (l : Launch) {D : va_G} {q : Nat → ClassId} {ad : Nat → Nat} {κ : KS} {τ : TAU} (sz : Nat) (ρ : Nat) (xa xb xc hd th : Int32) (hst : stepAt q ad κ τ ρ 56 xa xb xc) (hs : okStep 56 xa xb xc)(hX : WFx κ) (hN : nnOp κ 56 xa xb xc) : Met l yX7_weave wsX7_weave (rmz 3 67) (va_Pc [.ref (ad 5), .ref (ad ρ)] (rPre D q (wX q ad κ τ) sz)) (va_Qi (fun (r : Int32) (u : KS) => (r, u) = doR κ hd th 56 xa xb xc) (fun (u : KS) tt => rPo D (rA (wX q ad κ τ) sz) (wX q ad u τ) tt) (rA (wX q ad κ τ) sz)) 0 0 (rA (wX q ad κ τ) sz) := by
  have hi0 : vp_in xa 4 := hs.1
  have hi1 : vp_in xb 8 := hs.2.1
  have hi2 : vp_in xc 8 := hs.2.2
  refine r_start (cc := cX7_weave) (maxL := 2) (ret := (some .int)) (by decide) rfl (Nat.le_of_ble_eq_true rfl) ?_
  intro p e s m below meth c ls hC hr hlk hnm hsz hw hl
  have hx := hC.1
  have hb := hC.2.1
  have hl : lv_has ls 2 [(0, .ref (ad 5)), (1, .ref (ad ρ))] := hl
  refine lv_aload_n hx hb dX7_weave_0 rfl (lv_at hl 1 rfl) ?_
  refine r_get hC hw rk5 in_X7_weave_5 ρ hst.1 hst.2 0 (by decide) lk_X7_weave_15 (v := .int 56) rfl dX7_weave_1 ?_
  refine lv_bipush (v := 39) hx hb dX7_weave_4 (by decide) ?_
  refine lv_icmp_lt (tgt := 34) hx hb dX7_weave_6 (by decide) (fun c_ => absurd c_ (by decide)) (fun _ => ?_)
  refine lv_aload_n hx hb dX7_weave_9 rfl (lv_at hl 1 rfl) ?_
  refine r_get hC hw rk5 in_X7_weave_5 ρ hst.1 hst.2 0 (by decide) lk_X7_weave_15 (v := .int 56) rfl dX7_weave_10 ?_
  refine lv_bipush (v := 48) hx hb dX7_weave_13 (by decide) ?_
  refine lv_icmp_gt (tgt := 34) hx hb dX7_weave_15 (by decide) (fun _ => ?_) (fun c_ => absurd (by decide) c_)
  refine lv_aload_n hx hb dX7_weave_34 rfl (lv_at hl 1 rfl) ?_
  refine r_get hC hw rk5 in_X7_weave_5 ρ hst.1 hst.2 0 (by decide) lk_X7_weave_15 (v := .int 56) rfl dX7_weave_35 ?_
  refine lv_bipush (v := 49) hx hb dX7_weave_38 (by decide) ?_
  refine lv_icmp_lt (tgt := 68) hx hb dX7_weave_40 (by decide) (fun c_ => absurd c_ (by decide)) (fun _ => ?_)
  refine lv_aload_n hx hb dX7_weave_43 rfl (lv_at hl 1 rfl) ?_
  refine r_get hC hw rk5 in_X7_weave_5 ρ hst.1 hst.2 0 (by decide) lk_X7_weave_15 (v := .int 56) rfl dX7_weave_44 ?_
  refine lv_bipush (v := 58) hx hb dX7_weave_47 (by decide) ?_
  refine lv_icmp_gt (tgt := 68) hx hb dX7_weave_49 (by decide) (fun c_ => absurd c_ (by decide)) (fun _ => ?_)
  refine lv_aload_n hx hb dX7_weave_52 rfl (lv_at hl 0 rfl) ?_
  refine lv_aload_n hx hb dX7_weave_53 rfl (lv_at hl 1 rfl) ?_
  refine lv_aload_n hx hb dX7_weave_54 rfl (lv_at hl 1 rfl) ?_
  refine r_get hC hw rk5 in_X7_weave_5 ρ hst.1 hst.2 0 (by decide) lk_X7_weave_15 (v := .int 56) rfl dX7_weave_55 ?_
  refine lv_bipush (v := 49) hx hb dX7_weave_58 (by decide) ?_
  refine lv_isub hx hb dX7_weave_60 ?_
  refine r_topi (x := 56 - 49) (y := 7) (by decide) ?_
  refine r_ki hw (r_runS (rest := [.ref (ad ρ), .ref (ad 5)]) hC hw (c_X7_rowKind_7 l _ _) 1 gX7_weave_X7_rowKind rfl rfl rfl (by decide +kernel) ⟨Nat.le_of_ble_eq_true rfl, Nat.le_of_ble_eq_true rfl⟩ rfl hl.1 rfl (Nat.le_of_ble_eq_true rfl) dX7_weave_61 ⟨Nat.le_of_ble_eq_true rfl, Nat.le_of_ble_eq_true rfl⟩) (fun r_2 u_3 H locs h_1 hw => ?_)
  subst h_1
  refine r_ki hw (r_runV (rest := []) hC hw 5 (c_X7_putIntoRow_56 l _ ρ xa xb xc hd th hst hs hX hN) rk7 (wXl 5 (by decide)) wXc5 2 gX7_weave_X7_putIntoRow rfl rfl rfl (by decide +kernel) ⟨Nat.le_of_ble_eq_true rfl, Nat.le_of_ble_eq_true rfl⟩ rfl hl.1 rfl (Nat.le_of_ble_eq_true rfl) dX7_weave_64 ⟨Nat.le_of_ble_eq_true rfl, Nat.le_of_ble_eq_true rfl⟩) (fun r_5 u_6 H locs h_4 hw => ?_)
  exact r_iret hC hr hlk hw u_6 rfl h_4 (Nat.le_of_ble_eq_true rfl) (Nat.le_of_ble_eq_true rfl) dX7_weave_67

set_option maxHeartbeats 4000000 in
set_option maxRecDepth 100000 in
theorem c_X7_weave_57 (l : Launch) {D : va_G} {q : Nat → ClassId} {ad : Nat → Nat} {κ : KS} {τ : TAU} (sz : Nat) (ρ : Nat) (xa xb xc hd th : Int32) (hst : stepAt q ad κ τ ρ 57 xa xb xc) (hs : okStep 57 xa xb xc)(hX : WFx κ) (hN : nnOp κ 57 xa xb xc) : Met l yX7_weave wsX7_weave (rmz 3 67) (va_Pc [.ref (ad 5), .ref (ad ρ)] (rPre D q (wX q ad κ τ) sz)) (va_Qi (fun (r : Int32) (u : KS) => (r, u) = doR κ hd th 57 xa xb xc) (fun (u : KS) tt => rPo D (rA (wX q ad κ τ) sz) (wX q ad u τ) tt) (rA (wX q ad κ τ) sz)) 0 0 (rA (wX q ad κ τ) sz) := by
  have hi0 : vp_in xa 8 := hs.1
  have hi1 : vp_in xb 8 := hs.2.1
  have hi2 : vp_in xc 8 := hs.2.2
  refine r_start (cc := cX7_weave) (maxL := 2) (ret := (some .int)) (by decide) rfl (Nat.le_of_ble_eq_true rfl) ?_
  intro p e s m below meth c ls hC hr hlk hnm hsz hw hl
  have hx := hC.1
  have hb := hC.2.1
  have hl : lv_has ls 2 [(0, .ref (ad 5)), (1, .ref (ad ρ))] := hl
  refine lv_aload_n hx hb dX7_weave_0 rfl (lv_at hl 1 rfl) ?_
  refine r_get hC hw rk5 in_X7_weave_5 ρ hst.1 hst.2 0 (by decide) lk_X7_weave_15 (v := .int 57) rfl dX7_weave_1 ?_
  refine lv_bipush (v := 39) hx hb dX7_weave_4 (by decide) ?_
  refine lv_icmp_lt (tgt := 34) hx hb dX7_weave_6 (by decide) (fun c_ => absurd c_ (by decide)) (fun _ => ?_)
  refine lv_aload_n hx hb dX7_weave_9 rfl (lv_at hl 1 rfl) ?_
  refine r_get hC hw rk5 in_X7_weave_5 ρ hst.1 hst.2 0 (by decide) lk_X7_weave_15 (v := .int 57) rfl dX7_weave_10 ?_
  refine lv_bipush (v := 48) hx hb dX7_weave_13 (by decide) ?_
  refine lv_icmp_gt (tgt := 34) hx hb dX7_weave_15 (by decide) (fun _ => ?_) (fun c_ => absurd (by decide) c_)
  refine lv_aload_n hx hb dX7_weave_34 rfl (lv_at hl 1 rfl) ?_
  refine r_get hC hw rk5 in_X7_weave_5 ρ hst.1 hst.2 0 (by decide) lk_X7_weave_15 (v := .int 57) rfl dX7_weave_35 ?_
  refine lv_bipush (v := 49) hx hb dX7_weave_38 (by decide) ?_
  refine lv_icmp_lt (tgt := 68) hx hb dX7_weave_40 (by decide) (fun c_ => absurd c_ (by decide)) (fun _ => ?_)
  refine lv_aload_n hx hb dX7_weave_43 rfl (lv_at hl 1 rfl) ?_
  refine r_get hC hw rk5 in_X7_weave_5 ρ hst.1 hst.2 0 (by decide) lk_X7_weave_15 (v := .int 57) rfl dX7_weave_44 ?_
  refine lv_bipush (v := 58) hx hb dX7_weave_47 (by decide) ?_
  refine lv_icmp_gt (tgt := 68) hx hb dX7_weave_49 (by decide) (fun c_ => absurd c_ (by decide)) (fun _ => ?_)
  refine lv_aload_n hx hb dX7_weave_52 rfl (lv_at hl 0 rfl) ?_
  refine lv_aload_n hx hb dX7_weave_53 rfl (lv_at hl 1 rfl) ?_
  refine lv_aload_n hx hb dX7_weave_54 rfl (lv_at hl 1 rfl) ?_
  refine r_get hC hw rk5 in_X7_weave_5 ρ hst.1 hst.2 0 (by decide) lk_X7_weave_15 (v := .int 57) rfl dX7_weave_55 ?_
  refine lv_bipush (v := 49) hx hb dX7_weave_58 (by decide) ?_
  refine lv_isub hx hb dX7_weave_60 ?_
  refine r_topi (x := 57 - 49) (y := 8) (by decide) ?_
  refine r_ki hw (r_runS (rest := [.ref (ad ρ), .ref (ad 5)]) hC hw (c_X7_rowKind_8 l _ _) 1 gX7_weave_X7_rowKind rfl rfl rfl (by decide +kernel) ⟨Nat.le_of_ble_eq_true rfl, Nat.le_of_ble_eq_true rfl⟩ rfl hl.1 rfl (Nat.le_of_ble_eq_true rfl) dX7_weave_61 ⟨Nat.le_of_ble_eq_true rfl, Nat.le_of_ble_eq_true rfl⟩) (fun r_2 u_3 H locs h_1 hw => ?_)
  subst h_1
  refine r_ki hw (r_runV (rest := []) hC hw 5 (c_X7_putIntoRow_57 l _ ρ xa xb xc hd th hst hs hX hN) rk7 (wXl 5 (by decide)) wXc5 2 gX7_weave_X7_putIntoRow rfl rfl rfl (by decide +kernel) ⟨Nat.le_of_ble_eq_true rfl, Nat.le_of_ble_eq_true rfl⟩ rfl hl.1 rfl (Nat.le_of_ble_eq_true rfl) dX7_weave_64 ⟨Nat.le_of_ble_eq_true rfl, Nat.le_of_ble_eq_true rfl⟩) (fun r_5 u_6 H locs h_4 hw => ?_)
  exact r_iret hC hr hlk hw u_6 rfl h_4 (Nat.le_of_ble_eq_true rfl) (Nat.le_of_ble_eq_true rfl) dX7_weave_67

set_option maxHeartbeats 4000000 in
set_option maxRecDepth 100000 in
theorem c_X7_weave_58 (l : Launch) {D : va_G} {q : Nat → ClassId} {ad : Nat → Nat} {κ : KS} {τ : TAU} (sz : Nat) (ρ : Nat) (xa xb xc hd th : Int32) (hst : stepAt q ad κ τ ρ 58 xa xb xc) (hs : okStep 58 xa xb xc)(hX : WFx κ) (hN : nnOp κ 58 xa xb xc) : Met l yX7_weave wsX7_weave (rmz 3 67) (va_Pc [.ref (ad 5), .ref (ad ρ)] (rPre D q (wX q ad κ τ) sz)) (va_Qi (fun (r : Int32) (u : KS) => (r, u) = doR κ hd th 58 xa xb xc) (fun (u : KS) tt => rPo D (rA (wX q ad κ τ) sz) (wX q ad u τ) tt) (rA (wX q ad κ τ) sz)) 0 0 (rA (wX q ad κ τ) sz) := by
  have hi0 : vp_in xa 8 := hs.1
  have hi1 : vp_in xb 8 := hs.2.1
  have hi2 : vp_in xc 8 := hs.2.2
  refine r_start (cc := cX7_weave) (maxL := 2) (ret := (some .int)) (by decide) rfl (Nat.le_of_ble_eq_true rfl) ?_
  intro p e s m below meth c ls hC hr hlk hnm hsz hw hl
  have hx := hC.1
  have hb := hC.2.1
  have hl : lv_has ls 2 [(0, .ref (ad 5)), (1, .ref (ad ρ))] := hl
  refine lv_aload_n hx hb dX7_weave_0 rfl (lv_at hl 1 rfl) ?_
  refine r_get hC hw rk5 in_X7_weave_5 ρ hst.1 hst.2 0 (by decide) lk_X7_weave_15 (v := .int 58) rfl dX7_weave_1 ?_
  refine lv_bipush (v := 39) hx hb dX7_weave_4 (by decide) ?_
  refine lv_icmp_lt (tgt := 34) hx hb dX7_weave_6 (by decide) (fun c_ => absurd c_ (by decide)) (fun _ => ?_)
  refine lv_aload_n hx hb dX7_weave_9 rfl (lv_at hl 1 rfl) ?_
  refine r_get hC hw rk5 in_X7_weave_5 ρ hst.1 hst.2 0 (by decide) lk_X7_weave_15 (v := .int 58) rfl dX7_weave_10 ?_
  refine lv_bipush (v := 48) hx hb dX7_weave_13 (by decide) ?_
  refine lv_icmp_gt (tgt := 34) hx hb dX7_weave_15 (by decide) (fun _ => ?_) (fun c_ => absurd (by decide) c_)
  refine lv_aload_n hx hb dX7_weave_34 rfl (lv_at hl 1 rfl) ?_
  refine r_get hC hw rk5 in_X7_weave_5 ρ hst.1 hst.2 0 (by decide) lk_X7_weave_15 (v := .int 58) rfl dX7_weave_35 ?_
  refine lv_bipush (v := 49) hx hb dX7_weave_38 (by decide) ?_
  refine lv_icmp_lt (tgt := 68) hx hb dX7_weave_40 (by decide) (fun c_ => absurd c_ (by decide)) (fun _ => ?_)
  refine lv_aload_n hx hb dX7_weave_43 rfl (lv_at hl 1 rfl) ?_
  refine r_get hC hw rk5 in_X7_weave_5 ρ hst.1 hst.2 0 (by decide) lk_X7_weave_15 (v := .int 58) rfl dX7_weave_44 ?_
  refine lv_bipush (v := 58) hx hb dX7_weave_47 (by decide) ?_
  refine lv_icmp_gt (tgt := 68) hx hb dX7_weave_49 (by decide) (fun c_ => absurd c_ (by decide)) (fun _ => ?_)
  refine lv_aload_n hx hb dX7_weave_52 rfl (lv_at hl 0 rfl) ?_
  refine lv_aload_n hx hb dX7_weave_53 rfl (lv_at hl 1 rfl) ?_
  refine lv_aload_n hx hb dX7_weave_54 rfl (lv_at hl 1 rfl) ?_
  refine r_get hC hw rk5 in_X7_weave_5 ρ hst.1 hst.2 0 (by decide) lk_X7_weave_15 (v := .int 58) rfl dX7_weave_55 ?_
  refine lv_bipush (v := 49) hx hb dX7_weave_58 (by decide) ?_
  refine lv_isub hx hb dX7_weave_60 ?_
  refine r_topi (x := 58 - 49) (y := 9) (by decide) ?_
  refine r_ki hw (r_runS (rest := [.ref (ad ρ), .ref (ad 5)]) hC hw (c_X7_rowKind_9 l _ _) 1 gX7_weave_X7_rowKind rfl rfl rfl (by decide +kernel) ⟨Nat.le_of_ble_eq_true rfl, Nat.le_of_ble_eq_true rfl⟩ rfl hl.1 rfl (Nat.le_of_ble_eq_true rfl) dX7_weave_61 ⟨Nat.le_of_ble_eq_true rfl, Nat.le_of_ble_eq_true rfl⟩) (fun r_2 u_3 H locs h_1 hw => ?_)
  subst h_1
  refine r_ki hw (r_runV (rest := []) hC hw 5 (c_X7_putIntoRow_58 l _ ρ xa xb xc hd th hst hs hX hN) rk7 (wXl 5 (by decide)) wXc5 2 gX7_weave_X7_putIntoRow rfl rfl rfl (by decide +kernel) ⟨Nat.le_of_ble_eq_true rfl, Nat.le_of_ble_eq_true rfl⟩ rfl hl.1 rfl (Nat.le_of_ble_eq_true rfl) dX7_weave_64 ⟨Nat.le_of_ble_eq_true rfl, Nat.le_of_ble_eq_true rfl⟩) (fun r_5 u_6 H locs h_4 hw => ?_)
  exact r_iret hC hr hlk hw u_6 rfl h_4 (Nat.le_of_ble_eq_true rfl) (Nat.le_of_ble_eq_true rfl) dX7_weave_67

set_option maxHeartbeats 4000000 in
set_option maxRecDepth 100000 in
theorem c_X7_weave_59 (l : Launch) {D : va_G} {q : Nat → ClassId} {ad : Nat → Nat} {κ : KS} {τ : TAU} (sz : Nat) (ρ : Nat) (xa xb xc hd th : Int32) (hst : stepAt q ad κ τ ρ 59 xa xb xc) (hs : okStep 59 xa xb xc)(hX : WFx κ) (hN : nnOp κ 59 xa xb xc) : Met l yX7_weave wsX7_weave (rmz 3 67) (va_Pc [.ref (ad 5), .ref (ad ρ)] (rPre D q (wX q ad κ τ) sz)) (va_Qi (fun (r : Int32) (u : KS) => (r, u) = doR κ hd th 59 xa xb xc) (fun (u : KS) tt => rPo D (rA (wX q ad κ τ) sz) (wX q ad u τ) tt) (rA (wX q ad κ τ) sz)) 0 0 (rA (wX q ad κ τ) sz) := by
  have hi0 : vp_in xa 8 := hs.1
  have hi1 : vp_in xb 8 := hs.2.1
  refine r_start (cc := cX7_weave) (maxL := 2) (ret := (some .int)) (by decide) rfl (Nat.le_of_ble_eq_true rfl) ?_
  intro p e s m below meth c ls hC hr hlk hnm hsz hw hl
  have hx := hC.1
  have hb := hC.2.1
  have hl : lv_has ls 2 [(0, .ref (ad 5)), (1, .ref (ad ρ))] := hl
  refine lv_aload_n hx hb dX7_weave_0 rfl (lv_at hl 1 rfl) ?_
  refine r_get hC hw rk5 in_X7_weave_5 ρ hst.1 hst.2 0 (by decide) lk_X7_weave_15 (v := .int 59) rfl dX7_weave_1 ?_
  refine lv_bipush (v := 39) hx hb dX7_weave_4 (by decide) ?_
  refine lv_icmp_lt (tgt := 34) hx hb dX7_weave_6 (by decide) (fun c_ => absurd c_ (by decide)) (fun _ => ?_)
  refine lv_aload_n hx hb dX7_weave_9 rfl (lv_at hl 1 rfl) ?_
  refine r_get hC hw rk5 in_X7_weave_5 ρ hst.1 hst.2 0 (by decide) lk_X7_weave_15 (v := .int 59) rfl dX7_weave_10 ?_
  refine lv_bipush (v := 48) hx hb dX7_weave_13 (by decide) ?_
  refine lv_icmp_gt (tgt := 34) hx hb dX7_weave_15 (by decide) (fun _ => ?_) (fun c_ => absurd (by decide) c_)
  refine lv_aload_n hx hb dX7_weave_34 rfl (lv_at hl 1 rfl) ?_
  refine r_get hC hw rk5 in_X7_weave_5 ρ hst.1 hst.2 0 (by decide) lk_X7_weave_15 (v := .int 59) rfl dX7_weave_35 ?_
  refine lv_bipush (v := 49) hx hb dX7_weave_38 (by decide) ?_
  refine lv_icmp_lt (tgt := 68) hx hb dX7_weave_40 (by decide) (fun c_ => absurd c_ (by decide)) (fun _ => ?_)
  refine lv_aload_n hx hb dX7_weave_43 rfl (lv_at hl 1 rfl) ?_
  refine r_get hC hw rk5 in_X7_weave_5 ρ hst.1 hst.2 0 (by decide) lk_X7_weave_15 (v := .int 59) rfl dX7_weave_44 ?_
  refine lv_bipush (v := 58) hx hb dX7_weave_47 (by decide) ?_
  refine lv_icmp_gt (tgt := 68) hx hb dX7_weave_49 (by decide) (fun _ => ?_) (fun c_ => absurd (by decide) c_)
  refine lv_aload_n hx hb dX7_weave_68 rfl (lv_at hl 1 rfl) ?_
  refine r_get hC hw rk5 in_X7_weave_5 ρ hst.1 hst.2 0 (by decide) lk_X7_weave_15 (v := .int 59) rfl dX7_weave_69 ?_
  refine lv_bipush (v := 59) hx hb dX7_weave_72 (by decide) ?_
  refine lv_icmp_lt (tgt := 92) hx hb dX7_weave_74 (by decide) (fun c_ => absurd c_ (by decide)) (fun _ => ?_)
  refine lv_aload_n hx hb dX7_weave_77 rfl (lv_at hl 1 rfl) ?_
  refine r_get hC hw rk5 in_X7_weave_5 ρ hst.1 hst.2 0 (by decide) lk_X7_weave_15 (v := .int 59) rfl dX7_weave_78 ?_
  refine lv_bipush (v := 66) hx hb dX7_weave_81 (by decide) ?_
  refine lv_icmp_gt (tgt := 92) hx hb dX7_weave_83 (by decide) (fun c_ => absurd c_ (by decide)) (fun _ => ?_)
  refine lv_aload_n hx hb dX7_weave_86 rfl (lv_at hl 0 rfl) ?_
  refine lv_aload_n hx hb dX7_weave_87 rfl (lv_at hl 1 rfl) ?_
  refine r_ki hw (r_runV (rest := []) hC hw 5 (c_X7_useKnot_59 l _ ρ xa xb xc hd th hst hs hX hN) rk7 (wXl 5 (by decide)) wXc5 1 gX7_weave_X7_useKnot rfl rfl rfl (by decide +kernel) ⟨Nat.le_of_ble_eq_true rfl, Nat.le_of_ble_eq_true rfl⟩ rfl hl.1 rfl (Nat.le_of_ble_eq_true rfl) dX7_weave_88 ⟨Nat.le_of_ble_eq_true rfl, Nat.le_of_ble_eq_true rfl⟩) (fun r_2 u_3 H locs h_1 hw => ?_)
  exact r_iret hC hr hlk hw u_3 rfl h_1 (Nat.le_of_ble_eq_true rfl) (Nat.le_of_ble_eq_true rfl) dX7_weave_91

set_option maxHeartbeats 4000000 in
set_option maxRecDepth 100000 in
theorem c_X7_weave_60 (l : Launch) {D : va_G} {q : Nat → ClassId} {ad : Nat → Nat} {κ : KS} {τ : TAU} (sz : Nat) (ρ : Nat) (xa xb xc hd th : Int32) (hst : stepAt q ad κ τ ρ 60 xa xb xc) (hs : okStep 60 xa xb xc)(hX : WFx κ) (hN : nnOp κ 60 xa xb xc) : Met l yX7_weave wsX7_weave (rmz 3 67) (va_Pc [.ref (ad 5), .ref (ad ρ)] (rPre D q (wX q ad κ τ) sz)) (va_Qi (fun (r : Int32) (u : KS) => (r, u) = doR κ hd th 60 xa xb xc) (fun (u : KS) tt => rPo D (rA (wX q ad κ τ) sz) (wX q ad u τ) tt) (rA (wX q ad κ τ) sz)) 0 0 (rA (wX q ad κ τ) sz) := by
  have hi0 : vp_in xa 8 := hs.1
  have hi1 : vp_in xb 8 := hs.2.1
  refine r_start (cc := cX7_weave) (maxL := 2) (ret := (some .int)) (by decide) rfl (Nat.le_of_ble_eq_true rfl) ?_
  intro p e s m below meth c ls hC hr hlk hnm hsz hw hl
  have hx := hC.1
  have hb := hC.2.1
  have hl : lv_has ls 2 [(0, .ref (ad 5)), (1, .ref (ad ρ))] := hl
  refine lv_aload_n hx hb dX7_weave_0 rfl (lv_at hl 1 rfl) ?_
  refine r_get hC hw rk5 in_X7_weave_5 ρ hst.1 hst.2 0 (by decide) lk_X7_weave_15 (v := .int 60) rfl dX7_weave_1 ?_
  refine lv_bipush (v := 39) hx hb dX7_weave_4 (by decide) ?_
  refine lv_icmp_lt (tgt := 34) hx hb dX7_weave_6 (by decide) (fun c_ => absurd c_ (by decide)) (fun _ => ?_)
  refine lv_aload_n hx hb dX7_weave_9 rfl (lv_at hl 1 rfl) ?_
  refine r_get hC hw rk5 in_X7_weave_5 ρ hst.1 hst.2 0 (by decide) lk_X7_weave_15 (v := .int 60) rfl dX7_weave_10 ?_
  refine lv_bipush (v := 48) hx hb dX7_weave_13 (by decide) ?_
  refine lv_icmp_gt (tgt := 34) hx hb dX7_weave_15 (by decide) (fun _ => ?_) (fun c_ => absurd (by decide) c_)
  refine lv_aload_n hx hb dX7_weave_34 rfl (lv_at hl 1 rfl) ?_
  refine r_get hC hw rk5 in_X7_weave_5 ρ hst.1 hst.2 0 (by decide) lk_X7_weave_15 (v := .int 60) rfl dX7_weave_35 ?_
  refine lv_bipush (v := 49) hx hb dX7_weave_38 (by decide) ?_
  refine lv_icmp_lt (tgt := 68) hx hb dX7_weave_40 (by decide) (fun c_ => absurd c_ (by decide)) (fun _ => ?_)
  refine lv_aload_n hx hb dX7_weave_43 rfl (lv_at hl 1 rfl) ?_
  refine r_get hC hw rk5 in_X7_weave_5 ρ hst.1 hst.2 0 (by decide) lk_X7_weave_15 (v := .int 60) rfl dX7_weave_44 ?_
  refine lv_bipush (v := 58) hx hb dX7_weave_47 (by decide) ?_
  refine lv_icmp_gt (tgt := 68) hx hb dX7_weave_49 (by decide) (fun _ => ?_) (fun c_ => absurd (by decide) c_)
  refine lv_aload_n hx hb dX7_weave_68 rfl (lv_at hl 1 rfl) ?_
  refine r_get hC hw rk5 in_X7_weave_5 ρ hst.1 hst.2 0 (by decide) lk_X7_weave_15 (v := .int 60) rfl dX7_weave_69 ?_
  refine lv_bipush (v := 59) hx hb dX7_weave_72 (by decide) ?_
  refine lv_icmp_lt (tgt := 92) hx hb dX7_weave_74 (by decide) (fun c_ => absurd c_ (by decide)) (fun _ => ?_)
  refine lv_aload_n hx hb dX7_weave_77 rfl (lv_at hl 1 rfl) ?_
  refine r_get hC hw rk5 in_X7_weave_5 ρ hst.1 hst.2 0 (by decide) lk_X7_weave_15 (v := .int 60) rfl dX7_weave_78 ?_
  refine lv_bipush (v := 66) hx hb dX7_weave_81 (by decide) ?_
  refine lv_icmp_gt (tgt := 92) hx hb dX7_weave_83 (by decide) (fun c_ => absurd c_ (by decide)) (fun _ => ?_)
  refine lv_aload_n hx hb dX7_weave_86 rfl (lv_at hl 0 rfl) ?_
  refine lv_aload_n hx hb dX7_weave_87 rfl (lv_at hl 1 rfl) ?_
  refine r_ki hw (r_runV (rest := []) hC hw 5 (c_X7_useKnot_60 l _ ρ xa xb xc hd th hst hs hX hN) rk7 (wXl 5 (by decide)) wXc5 1 gX7_weave_X7_useKnot rfl rfl rfl (by decide +kernel) ⟨Nat.le_of_ble_eq_true rfl, Nat.le_of_ble_eq_true rfl⟩ rfl hl.1 rfl (Nat.le_of_ble_eq_true rfl) dX7_weave_88 ⟨Nat.le_of_ble_eq_true rfl, Nat.le_of_ble_eq_true rfl⟩) (fun r_2 u_3 H locs h_1 hw => ?_)
  exact r_iret hC hr hlk hw u_3 rfl h_1 (Nat.le_of_ble_eq_true rfl) (Nat.le_of_ble_eq_true rfl) dX7_weave_91

set_option maxHeartbeats 4000000 in
set_option maxRecDepth 100000 in
theorem c_X7_weave_61 (l : Launch) {D : va_G} {q : Nat → ClassId} {ad : Nat → Nat} {κ : KS} {τ : TAU} (sz : Nat) (ρ : Nat) (xa xb xc hd th : Int32) (hst : stepAt q ad κ τ ρ 61 xa xb xc) (hs : okStep 61 xa xb xc)(hX : WFx κ) (hN : nnOp κ 61 xa xb xc) : Met l yX7_weave wsX7_weave (rmz 3 67) (va_Pc [.ref (ad 5), .ref (ad ρ)] (rPre D q (wX q ad κ τ) sz)) (va_Qi (fun (r : Int32) (u : KS) => (r, u) = doR κ hd th 61 xa xb xc) (fun (u : KS) tt => rPo D (rA (wX q ad κ τ) sz) (wX q ad u τ) tt) (rA (wX q ad κ τ) sz)) 0 0 (rA (wX q ad κ τ) sz) := by
  have hi0 : vp_in xa 4 := hs.1
  have hi1 : vp_in xb 8 := hs.2.1
  refine r_start (cc := cX7_weave) (maxL := 2) (ret := (some .int)) (by decide) rfl (Nat.le_of_ble_eq_true rfl) ?_
  intro p e s m below meth c ls hC hr hlk hnm hsz hw hl
  have hx := hC.1
  have hb := hC.2.1
  have hl : lv_has ls 2 [(0, .ref (ad 5)), (1, .ref (ad ρ))] := hl
  refine lv_aload_n hx hb dX7_weave_0 rfl (lv_at hl 1 rfl) ?_
  refine r_get hC hw rk5 in_X7_weave_5 ρ hst.1 hst.2 0 (by decide) lk_X7_weave_15 (v := .int 61) rfl dX7_weave_1 ?_
  refine lv_bipush (v := 39) hx hb dX7_weave_4 (by decide) ?_
  refine lv_icmp_lt (tgt := 34) hx hb dX7_weave_6 (by decide) (fun c_ => absurd c_ (by decide)) (fun _ => ?_)
  refine lv_aload_n hx hb dX7_weave_9 rfl (lv_at hl 1 rfl) ?_
  refine r_get hC hw rk5 in_X7_weave_5 ρ hst.1 hst.2 0 (by decide) lk_X7_weave_15 (v := .int 61) rfl dX7_weave_10 ?_
  refine lv_bipush (v := 48) hx hb dX7_weave_13 (by decide) ?_
  refine lv_icmp_gt (tgt := 34) hx hb dX7_weave_15 (by decide) (fun _ => ?_) (fun c_ => absurd (by decide) c_)
  refine lv_aload_n hx hb dX7_weave_34 rfl (lv_at hl 1 rfl) ?_
  refine r_get hC hw rk5 in_X7_weave_5 ρ hst.1 hst.2 0 (by decide) lk_X7_weave_15 (v := .int 61) rfl dX7_weave_35 ?_
  refine lv_bipush (v := 49) hx hb dX7_weave_38 (by decide) ?_
  refine lv_icmp_lt (tgt := 68) hx hb dX7_weave_40 (by decide) (fun c_ => absurd c_ (by decide)) (fun _ => ?_)
  refine lv_aload_n hx hb dX7_weave_43 rfl (lv_at hl 1 rfl) ?_
  refine r_get hC hw rk5 in_X7_weave_5 ρ hst.1 hst.2 0 (by decide) lk_X7_weave_15 (v := .int 61) rfl dX7_weave_44 ?_
  refine lv_bipush (v := 58) hx hb dX7_weave_47 (by decide) ?_
  refine lv_icmp_gt (tgt := 68) hx hb dX7_weave_49 (by decide) (fun _ => ?_) (fun c_ => absurd (by decide) c_)
  refine lv_aload_n hx hb dX7_weave_68 rfl (lv_at hl 1 rfl) ?_
  refine r_get hC hw rk5 in_X7_weave_5 ρ hst.1 hst.2 0 (by decide) lk_X7_weave_15 (v := .int 61) rfl dX7_weave_69 ?_
  refine lv_bipush (v := 59) hx hb dX7_weave_72 (by decide) ?_
  refine lv_icmp_lt (tgt := 92) hx hb dX7_weave_74 (by decide) (fun c_ => absurd c_ (by decide)) (fun _ => ?_)
  refine lv_aload_n hx hb dX7_weave_77 rfl (lv_at hl 1 rfl) ?_
  refine r_get hC hw rk5 in_X7_weave_5 ρ hst.1 hst.2 0 (by decide) lk_X7_weave_15 (v := .int 61) rfl dX7_weave_78 ?_
  refine lv_bipush (v := 66) hx hb dX7_weave_81 (by decide) ?_
  refine lv_icmp_gt (tgt := 92) hx hb dX7_weave_83 (by decide) (fun c_ => absurd c_ (by decide)) (fun _ => ?_)
  refine lv_aload_n hx hb dX7_weave_86 rfl (lv_at hl 0 rfl) ?_
  refine lv_aload_n hx hb dX7_weave_87 rfl (lv_at hl 1 rfl) ?_
  refine r_ki hw (r_runV (rest := []) hC hw 5 (c_X7_useKnot_61 l _ ρ xa xb xc hd th hst hs hX hN) rk7 (wXl 5 (by decide)) wXc5 1 gX7_weave_X7_useKnot rfl rfl rfl (by decide +kernel) ⟨Nat.le_of_ble_eq_true rfl, Nat.le_of_ble_eq_true rfl⟩ rfl hl.1 rfl (Nat.le_of_ble_eq_true rfl) dX7_weave_88 ⟨Nat.le_of_ble_eq_true rfl, Nat.le_of_ble_eq_true rfl⟩) (fun r_2 u_3 H locs h_1 hw => ?_)
  exact r_iret hC hr hlk hw u_3 rfl h_1 (Nat.le_of_ble_eq_true rfl) (Nat.le_of_ble_eq_true rfl) dX7_weave_91

set_option maxHeartbeats 4000000 in
set_option maxRecDepth 100000 in
theorem c_X7_weave_62 (l : Launch) {D : va_G} {q : Nat → ClassId} {ad : Nat → Nat} {κ : KS} {τ : TAU} (sz : Nat) (ρ : Nat) (xa xb xc hd th : Int32) (hst : stepAt q ad κ τ ρ 62 xa xb xc) (hs : okStep 62 xa xb xc)(hX : WFx κ) (hN : nnOp κ 62 xa xb xc) : Met l yX7_weave wsX7_weave (rmz 3 67) (va_Pc [.ref (ad 5), .ref (ad ρ)] (rPre D q (wX q ad κ τ) sz)) (va_Qi (fun (r : Int32) (u : KS) => (r, u) = doR κ hd th 62 xa xb xc) (fun (u : KS) tt => rPo D (rA (wX q ad κ τ) sz) (wX q ad u τ) tt) (rA (wX q ad κ τ) sz)) 0 0 (rA (wX q ad κ τ) sz) := by
  have hi0 : vp_in xa 4 := hs.1
  have hi1 : vp_in xb 8 := hs.2.1
  refine r_start (cc := cX7_weave) (maxL := 2) (ret := (some .int)) (by decide) rfl (Nat.le_of_ble_eq_true rfl) ?_
  intro p e s m below meth c ls hC hr hlk hnm hsz hw hl
  have hx := hC.1
  have hb := hC.2.1
  have hl : lv_has ls 2 [(0, .ref (ad 5)), (1, .ref (ad ρ))] := hl
  refine lv_aload_n hx hb dX7_weave_0 rfl (lv_at hl 1 rfl) ?_
  refine r_get hC hw rk5 in_X7_weave_5 ρ hst.1 hst.2 0 (by decide) lk_X7_weave_15 (v := .int 62) rfl dX7_weave_1 ?_
  refine lv_bipush (v := 39) hx hb dX7_weave_4 (by decide) ?_
  refine lv_icmp_lt (tgt := 34) hx hb dX7_weave_6 (by decide) (fun c_ => absurd c_ (by decide)) (fun _ => ?_)
  refine lv_aload_n hx hb dX7_weave_9 rfl (lv_at hl 1 rfl) ?_
  refine r_get hC hw rk5 in_X7_weave_5 ρ hst.1 hst.2 0 (by decide) lk_X7_weave_15 (v := .int 62) rfl dX7_weave_10 ?_
  refine lv_bipush (v := 48) hx hb dX7_weave_13 (by decide) ?_
  refine lv_icmp_gt (tgt := 34) hx hb dX7_weave_15 (by decide) (fun _ => ?_) (fun c_ => absurd (by decide) c_)
  refine lv_aload_n hx hb dX7_weave_34 rfl (lv_at hl 1 rfl) ?_
  refine r_get hC hw rk5 in_X7_weave_5 ρ hst.1 hst.2 0 (by decide) lk_X7_weave_15 (v := .int 62) rfl dX7_weave_35 ?_
  refine lv_bipush (v := 49) hx hb dX7_weave_38 (by decide) ?_
  refine lv_icmp_lt (tgt := 68) hx hb dX7_weave_40 (by decide) (fun c_ => absurd c_ (by decide)) (fun _ => ?_)
  refine lv_aload_n hx hb dX7_weave_43 rfl (lv_at hl 1 rfl) ?_
  refine r_get hC hw rk5 in_X7_weave_5 ρ hst.1 hst.2 0 (by decide) lk_X7_weave_15 (v := .int 62) rfl dX7_weave_44 ?_
  refine lv_bipush (v := 58) hx hb dX7_weave_47 (by decide) ?_
  refine lv_icmp_gt (tgt := 68) hx hb dX7_weave_49 (by decide) (fun _ => ?_) (fun c_ => absurd (by decide) c_)
  refine lv_aload_n hx hb dX7_weave_68 rfl (lv_at hl 1 rfl) ?_
  refine r_get hC hw rk5 in_X7_weave_5 ρ hst.1 hst.2 0 (by decide) lk_X7_weave_15 (v := .int 62) rfl dX7_weave_69 ?_
  refine lv_bipush (v := 59) hx hb dX7_weave_72 (by decide) ?_
  refine lv_icmp_lt (tgt := 92) hx hb dX7_weave_74 (by decide) (fun c_ => absurd c_ (by decide)) (fun _ => ?_)
  refine lv_aload_n hx hb dX7_weave_77 rfl (lv_at hl 1 rfl) ?_
  refine r_get hC hw rk5 in_X7_weave_5 ρ hst.1 hst.2 0 (by decide) lk_X7_weave_15 (v := .int 62) rfl dX7_weave_78 ?_
  refine lv_bipush (v := 66) hx hb dX7_weave_81 (by decide) ?_
  refine lv_icmp_gt (tgt := 92) hx hb dX7_weave_83 (by decide) (fun c_ => absurd c_ (by decide)) (fun _ => ?_)
  refine lv_aload_n hx hb dX7_weave_86 rfl (lv_at hl 0 rfl) ?_
  refine lv_aload_n hx hb dX7_weave_87 rfl (lv_at hl 1 rfl) ?_
  refine r_ki hw (r_runV (rest := []) hC hw 5 (c_X7_useKnot_62 l _ ρ xa xb xc hd th hst hs hX hN) rk7 (wXl 5 (by decide)) wXc5 1 gX7_weave_X7_useKnot rfl rfl rfl (by decide +kernel) ⟨Nat.le_of_ble_eq_true rfl, Nat.le_of_ble_eq_true rfl⟩ rfl hl.1 rfl (Nat.le_of_ble_eq_true rfl) dX7_weave_88 ⟨Nat.le_of_ble_eq_true rfl, Nat.le_of_ble_eq_true rfl⟩) (fun r_2 u_3 H locs h_1 hw => ?_)
  exact r_iret hC hr hlk hw u_3 rfl h_1 (Nat.le_of_ble_eq_true rfl) (Nat.le_of_ble_eq_true rfl) dX7_weave_91

set_option maxHeartbeats 4000000 in
set_option maxRecDepth 100000 in
theorem c_X7_weave_63 (l : Launch) {D : va_G} {q : Nat → ClassId} {ad : Nat → Nat} {κ : KS} {τ : TAU} (sz : Nat) (ρ : Nat) (xa xb xc hd th : Int32) (hst : stepAt q ad κ τ ρ 63 xa xb xc) (hs : okStep 63 xa xb xc)(hX : WFx κ) (hN : nnOp κ 63 xa xb xc) : Met l yX7_weave wsX7_weave (rmz 3 67) (va_Pc [.ref (ad 5), .ref (ad ρ)] (rPre D q (wX q ad κ τ) sz)) (va_Qi (fun (r : Int32) (u : KS) => (r, u) = doR κ hd th 63 xa xb xc) (fun (u : KS) tt => rPo D (rA (wX q ad κ τ) sz) (wX q ad u τ) tt) (rA (wX q ad κ τ) sz)) 0 0 (rA (wX q ad κ τ) sz) := by
  have hi0 : vp_in xa 8 := hs.1
  have hi1 : vp_in xb 8 := hs.2.1
  refine r_start (cc := cX7_weave) (maxL := 2) (ret := (some .int)) (by decide) rfl (Nat.le_of_ble_eq_true rfl) ?_
  intro p e s m below meth c ls hC hr hlk hnm hsz hw hl
  have hx := hC.1
  have hb := hC.2.1
  have hl : lv_has ls 2 [(0, .ref (ad 5)), (1, .ref (ad ρ))] := hl
  refine lv_aload_n hx hb dX7_weave_0 rfl (lv_at hl 1 rfl) ?_
  refine r_get hC hw rk5 in_X7_weave_5 ρ hst.1 hst.2 0 (by decide) lk_X7_weave_15 (v := .int 63) rfl dX7_weave_1 ?_
  refine lv_bipush (v := 39) hx hb dX7_weave_4 (by decide) ?_
  refine lv_icmp_lt (tgt := 34) hx hb dX7_weave_6 (by decide) (fun c_ => absurd c_ (by decide)) (fun _ => ?_)
  refine lv_aload_n hx hb dX7_weave_9 rfl (lv_at hl 1 rfl) ?_
  refine r_get hC hw rk5 in_X7_weave_5 ρ hst.1 hst.2 0 (by decide) lk_X7_weave_15 (v := .int 63) rfl dX7_weave_10 ?_
  refine lv_bipush (v := 48) hx hb dX7_weave_13 (by decide) ?_
  refine lv_icmp_gt (tgt := 34) hx hb dX7_weave_15 (by decide) (fun _ => ?_) (fun c_ => absurd (by decide) c_)
  refine lv_aload_n hx hb dX7_weave_34 rfl (lv_at hl 1 rfl) ?_
  refine r_get hC hw rk5 in_X7_weave_5 ρ hst.1 hst.2 0 (by decide) lk_X7_weave_15 (v := .int 63) rfl dX7_weave_35 ?_
  refine lv_bipush (v := 49) hx hb dX7_weave_38 (by decide) ?_
  refine lv_icmp_lt (tgt := 68) hx hb dX7_weave_40 (by decide) (fun c_ => absurd c_ (by decide)) (fun _ => ?_)
  refine lv_aload_n hx hb dX7_weave_43 rfl (lv_at hl 1 rfl) ?_
  refine r_get hC hw rk5 in_X7_weave_5 ρ hst.1 hst.2 0 (by decide) lk_X7_weave_15 (v := .int 63) rfl dX7_weave_44 ?_
  refine lv_bipush (v := 58) hx hb dX7_weave_47 (by decide) ?_
  refine lv_icmp_gt (tgt := 68) hx hb dX7_weave_49 (by decide) (fun _ => ?_) (fun c_ => absurd (by decide) c_)
  refine lv_aload_n hx hb dX7_weave_68 rfl (lv_at hl 1 rfl) ?_
  refine r_get hC hw rk5 in_X7_weave_5 ρ hst.1 hst.2 0 (by decide) lk_X7_weave_15 (v := .int 63) rfl dX7_weave_69 ?_
  refine lv_bipush (v := 59) hx hb dX7_weave_72 (by decide) ?_
  refine lv_icmp_lt (tgt := 92) hx hb dX7_weave_74 (by decide) (fun c_ => absurd c_ (by decide)) (fun _ => ?_)
  refine lv_aload_n hx hb dX7_weave_77 rfl (lv_at hl 1 rfl) ?_
  refine r_get hC hw rk5 in_X7_weave_5 ρ hst.1 hst.2 0 (by decide) lk_X7_weave_15 (v := .int 63) rfl dX7_weave_78 ?_
  refine lv_bipush (v := 66) hx hb dX7_weave_81 (by decide) ?_
  refine lv_icmp_gt (tgt := 92) hx hb dX7_weave_83 (by decide) (fun c_ => absurd c_ (by decide)) (fun _ => ?_)
  refine lv_aload_n hx hb dX7_weave_86 rfl (lv_at hl 0 rfl) ?_
  refine lv_aload_n hx hb dX7_weave_87 rfl (lv_at hl 1 rfl) ?_
  refine r_ki hw (r_runV (rest := []) hC hw 5 (c_X7_useKnot_63 l _ ρ xa xb xc hd th hst hs hX hN) rk7 (wXl 5 (by decide)) wXc5 1 gX7_weave_X7_useKnot rfl rfl rfl (by decide +kernel) ⟨Nat.le_of_ble_eq_true rfl, Nat.le_of_ble_eq_true rfl⟩ rfl hl.1 rfl (Nat.le_of_ble_eq_true rfl) dX7_weave_88 ⟨Nat.le_of_ble_eq_true rfl, Nat.le_of_ble_eq_true rfl⟩) (fun r_2 u_3 H locs h_1 hw => ?_)
  exact r_iret hC hr hlk hw u_3 rfl h_1 (Nat.le_of_ble_eq_true rfl) (Nat.le_of_ble_eq_true rfl) dX7_weave_91

set_option maxHeartbeats 4000000 in
set_option maxRecDepth 100000 in
theorem c_X7_weave_64 (l : Launch) {D : va_G} {q : Nat → ClassId} {ad : Nat → Nat} {κ : KS} {τ : TAU} (sz : Nat) (ρ : Nat) (xa xb xc hd th : Int32) (hst : stepAt q ad κ τ ρ 64 xa xb xc) (hs : okStep 64 xa xb xc)(hX : WFx κ) (hN : nnOp κ 64 xa xb xc) : Met l yX7_weave wsX7_weave (rmz 3 67) (va_Pc [.ref (ad 5), .ref (ad ρ)] (rPre D q (wX q ad κ τ) sz)) (va_Qi (fun (r : Int32) (u : KS) => (r, u) = doR κ hd th 64 xa xb xc) (fun (u : KS) tt => rPo D (rA (wX q ad κ τ) sz) (wX q ad u τ) tt) (rA (wX q ad κ τ) sz)) 0 0 (rA (wX q ad κ τ) sz) := by
  have hi0 : vp_in xa 8 := hs.1
  have hi1 : vp_in xb 8 := hs.2.1
  refine r_start (cc := cX7_weave) (maxL := 2) (ret := (some .int)) (by decide) rfl (Nat.le_of_ble_eq_true rfl) ?_
  intro p e s m below meth c ls hC hr hlk hnm hsz hw hl
  have hx := hC.1
  have hb := hC.2.1
  have hl : lv_has ls 2 [(0, .ref (ad 5)), (1, .ref (ad ρ))] := hl
  refine lv_aload_n hx hb dX7_weave_0 rfl (lv_at hl 1 rfl) ?_
  refine r_get hC hw rk5 in_X7_weave_5 ρ hst.1 hst.2 0 (by decide) lk_X7_weave_15 (v := .int 64) rfl dX7_weave_1 ?_
  refine lv_bipush (v := 39) hx hb dX7_weave_4 (by decide) ?_
  refine lv_icmp_lt (tgt := 34) hx hb dX7_weave_6 (by decide) (fun c_ => absurd c_ (by decide)) (fun _ => ?_)
  refine lv_aload_n hx hb dX7_weave_9 rfl (lv_at hl 1 rfl) ?_
  refine r_get hC hw rk5 in_X7_weave_5 ρ hst.1 hst.2 0 (by decide) lk_X7_weave_15 (v := .int 64) rfl dX7_weave_10 ?_
  refine lv_bipush (v := 48) hx hb dX7_weave_13 (by decide) ?_
  refine lv_icmp_gt (tgt := 34) hx hb dX7_weave_15 (by decide) (fun _ => ?_) (fun c_ => absurd (by decide) c_)
  refine lv_aload_n hx hb dX7_weave_34 rfl (lv_at hl 1 rfl) ?_
  refine r_get hC hw rk5 in_X7_weave_5 ρ hst.1 hst.2 0 (by decide) lk_X7_weave_15 (v := .int 64) rfl dX7_weave_35 ?_
  refine lv_bipush (v := 49) hx hb dX7_weave_38 (by decide) ?_
  refine lv_icmp_lt (tgt := 68) hx hb dX7_weave_40 (by decide) (fun c_ => absurd c_ (by decide)) (fun _ => ?_)
  refine lv_aload_n hx hb dX7_weave_43 rfl (lv_at hl 1 rfl) ?_
  refine r_get hC hw rk5 in_X7_weave_5 ρ hst.1 hst.2 0 (by decide) lk_X7_weave_15 (v := .int 64) rfl dX7_weave_44 ?_
  refine lv_bipush (v := 58) hx hb dX7_weave_47 (by decide) ?_
  refine lv_icmp_gt (tgt := 68) hx hb dX7_weave_49 (by decide) (fun _ => ?_) (fun c_ => absurd (by decide) c_)
  refine lv_aload_n hx hb dX7_weave_68 rfl (lv_at hl 1 rfl) ?_
  refine r_get hC hw rk5 in_X7_weave_5 ρ hst.1 hst.2 0 (by decide) lk_X7_weave_15 (v := .int 64) rfl dX7_weave_69 ?_
  refine lv_bipush (v := 59) hx hb dX7_weave_72 (by decide) ?_
  refine lv_icmp_lt (tgt := 92) hx hb dX7_weave_74 (by decide) (fun c_ => absurd c_ (by decide)) (fun _ => ?_)
  refine lv_aload_n hx hb dX7_weave_77 rfl (lv_at hl 1 rfl) ?_
  refine r_get hC hw rk5 in_X7_weave_5 ρ hst.1 hst.2 0 (by decide) lk_X7_weave_15 (v := .int 64) rfl dX7_weave_78 ?_
  refine lv_bipush (v := 66) hx hb dX7_weave_81 (by decide) ?_
  refine lv_icmp_gt (tgt := 92) hx hb dX7_weave_83 (by decide) (fun c_ => absurd c_ (by decide)) (fun _ => ?_)
  refine lv_aload_n hx hb dX7_weave_86 rfl (lv_at hl 0 rfl) ?_
  refine lv_aload_n hx hb dX7_weave_87 rfl (lv_at hl 1 rfl) ?_
  refine r_ki hw (r_runV (rest := []) hC hw 5 (c_X7_useKnot_64 l _ ρ xa xb xc hd th hst hs hX hN) rk7 (wXl 5 (by decide)) wXc5 1 gX7_weave_X7_useKnot rfl rfl rfl (by decide +kernel) ⟨Nat.le_of_ble_eq_true rfl, Nat.le_of_ble_eq_true rfl⟩ rfl hl.1 rfl (Nat.le_of_ble_eq_true rfl) dX7_weave_88 ⟨Nat.le_of_ble_eq_true rfl, Nat.le_of_ble_eq_true rfl⟩) (fun r_2 u_3 H locs h_1 hw => ?_)
  exact r_iret hC hr hlk hw u_3 rfl h_1 (Nat.le_of_ble_eq_true rfl) (Nat.le_of_ble_eq_true rfl) dX7_weave_91

set_option maxHeartbeats 4000000 in
set_option maxRecDepth 100000 in
theorem c_X7_weave_65 (l : Launch) {D : va_G} {q : Nat → ClassId} {ad : Nat → Nat} {κ : KS} {τ : TAU} (sz : Nat) (ρ : Nat) (xa xb xc hd th : Int32) (hst : stepAt q ad κ τ ρ 65 xa xb xc) (hs : okStep 65 xa xb xc)(hX : WFx κ) (hN : nnOp κ 65 xa xb xc) : Met l yX7_weave wsX7_weave (rmz 3 67) (va_Pc [.ref (ad 5), .ref (ad ρ)] (rPre D q (wX q ad κ τ) sz)) (va_Qi (fun (r : Int32) (u : KS) => (r, u) = doR κ hd th 65 xa xb xc) (fun (u : KS) tt => rPo D (rA (wX q ad κ τ) sz) (wX q ad u τ) tt) (rA (wX q ad κ τ) sz)) 0 0 (rA (wX q ad κ τ) sz) := by
  have hi0 : vp_in xa 8 := hs.1
  have hi1 : vp_in xb 8 := hs.2.1
  have hi2 : vp_in xc 8 := hs.2.2
  refine r_start (cc := cX7_weave) (maxL := 2) (ret := (some .int)) (by decide) rfl (Nat.le_of_ble_eq_true rfl) ?_
  intro p e s m below meth c ls hC hr hlk hnm hsz hw hl
  have hx := hC.1
  have hb := hC.2.1
  have hl : lv_has ls 2 [(0, .ref (ad 5)), (1, .ref (ad ρ))] := hl
  refine lv_aload_n hx hb dX7_weave_0 rfl (lv_at hl 1 rfl) ?_
  refine r_get hC hw rk5 in_X7_weave_5 ρ hst.1 hst.2 0 (by decide) lk_X7_weave_15 (v := .int 65) rfl dX7_weave_1 ?_
  refine lv_bipush (v := 39) hx hb dX7_weave_4 (by decide) ?_
  refine lv_icmp_lt (tgt := 34) hx hb dX7_weave_6 (by decide) (fun c_ => absurd c_ (by decide)) (fun _ => ?_)
  refine lv_aload_n hx hb dX7_weave_9 rfl (lv_at hl 1 rfl) ?_
  refine r_get hC hw rk5 in_X7_weave_5 ρ hst.1 hst.2 0 (by decide) lk_X7_weave_15 (v := .int 65) rfl dX7_weave_10 ?_
  refine lv_bipush (v := 48) hx hb dX7_weave_13 (by decide) ?_
  refine lv_icmp_gt (tgt := 34) hx hb dX7_weave_15 (by decide) (fun _ => ?_) (fun c_ => absurd (by decide) c_)
  refine lv_aload_n hx hb dX7_weave_34 rfl (lv_at hl 1 rfl) ?_
  refine r_get hC hw rk5 in_X7_weave_5 ρ hst.1 hst.2 0 (by decide) lk_X7_weave_15 (v := .int 65) rfl dX7_weave_35 ?_
  refine lv_bipush (v := 49) hx hb dX7_weave_38 (by decide) ?_
  refine lv_icmp_lt (tgt := 68) hx hb dX7_weave_40 (by decide) (fun c_ => absurd c_ (by decide)) (fun _ => ?_)
  refine lv_aload_n hx hb dX7_weave_43 rfl (lv_at hl 1 rfl) ?_
  refine r_get hC hw rk5 in_X7_weave_5 ρ hst.1 hst.2 0 (by decide) lk_X7_weave_15 (v := .int 65) rfl dX7_weave_44 ?_
  refine lv_bipush (v := 58) hx hb dX7_weave_47 (by decide) ?_
  refine lv_icmp_gt (tgt := 68) hx hb dX7_weave_49 (by decide) (fun _ => ?_) (fun c_ => absurd (by decide) c_)
  refine lv_aload_n hx hb dX7_weave_68 rfl (lv_at hl 1 rfl) ?_
  refine r_get hC hw rk5 in_X7_weave_5 ρ hst.1 hst.2 0 (by decide) lk_X7_weave_15 (v := .int 65) rfl dX7_weave_69 ?_
  refine lv_bipush (v := 59) hx hb dX7_weave_72 (by decide) ?_
  refine lv_icmp_lt (tgt := 92) hx hb dX7_weave_74 (by decide) (fun c_ => absurd c_ (by decide)) (fun _ => ?_)
  refine lv_aload_n hx hb dX7_weave_77 rfl (lv_at hl 1 rfl) ?_
  refine r_get hC hw rk5 in_X7_weave_5 ρ hst.1 hst.2 0 (by decide) lk_X7_weave_15 (v := .int 65) rfl dX7_weave_78 ?_
  refine lv_bipush (v := 66) hx hb dX7_weave_81 (by decide) ?_
  refine lv_icmp_gt (tgt := 92) hx hb dX7_weave_83 (by decide) (fun c_ => absurd c_ (by decide)) (fun _ => ?_)
  refine lv_aload_n hx hb dX7_weave_86 rfl (lv_at hl 0 rfl) ?_
  refine lv_aload_n hx hb dX7_weave_87 rfl (lv_at hl 1 rfl) ?_
  refine r_ki hw (r_runV (rest := []) hC hw 5 (c_X7_useKnot_65 l _ ρ xa xb xc hd th hst hs hX hN) rk7 (wXl 5 (by decide)) wXc5 1 gX7_weave_X7_useKnot rfl rfl rfl (by decide +kernel) ⟨Nat.le_of_ble_eq_true rfl, Nat.le_of_ble_eq_true rfl⟩ rfl hl.1 rfl (Nat.le_of_ble_eq_true rfl) dX7_weave_88 ⟨Nat.le_of_ble_eq_true rfl, Nat.le_of_ble_eq_true rfl⟩) (fun r_2 u_3 H locs h_1 hw => ?_)
  exact r_iret hC hr hlk hw u_3 rfl h_1 (Nat.le_of_ble_eq_true rfl) (Nat.le_of_ble_eq_true rfl) dX7_weave_91

set_option maxHeartbeats 4000000 in
set_option maxRecDepth 100000 in
theorem c_X7_weave_66 (l : Launch) {D : va_G} {q : Nat → ClassId} {ad : Nat → Nat} {κ : KS} {τ : TAU} (sz : Nat) (ρ : Nat) (xa xb xc hd th : Int32) (hst : stepAt q ad κ τ ρ 66 xa xb xc) (hs : okStep 66 xa xb xc)(hX : WFx κ) (hN : nnOp κ 66 xa xb xc) : Met l yX7_weave wsX7_weave (rmz 3 67) (va_Pc [.ref (ad 5), .ref (ad ρ)] (rPre D q (wX q ad κ τ) sz)) (va_Qi (fun (r : Int32) (u : KS) => (r, u) = doR κ hd th 66 xa xb xc) (fun (u : KS) tt => rPo D (rA (wX q ad κ τ) sz) (wX q ad u τ) tt) (rA (wX q ad κ τ) sz)) 0 0 (rA (wX q ad κ τ) sz) := by
  have hi0 : vp_in xa 8 := hs.1
  have hi1 : vp_in xb 8 := hs.2.1
  have hi2 : vp_in xc 8 := hs.2.2
  refine r_start (cc := cX7_weave) (maxL := 2) (ret := (some .int)) (by decide) rfl (Nat.le_of_ble_eq_true rfl) ?_
  intro p e s m below meth c ls hC hr hlk hnm hsz hw hl
  have hx := hC.1
  have hb := hC.2.1
  have hl : lv_has ls 2 [(0, .ref (ad 5)), (1, .ref (ad ρ))] := hl
  refine lv_aload_n hx hb dX7_weave_0 rfl (lv_at hl 1 rfl) ?_
  refine r_get hC hw rk5 in_X7_weave_5 ρ hst.1 hst.2 0 (by decide) lk_X7_weave_15 (v := .int 66) rfl dX7_weave_1 ?_
  refine lv_bipush (v := 39) hx hb dX7_weave_4 (by decide) ?_
  refine lv_icmp_lt (tgt := 34) hx hb dX7_weave_6 (by decide) (fun c_ => absurd c_ (by decide)) (fun _ => ?_)
  refine lv_aload_n hx hb dX7_weave_9 rfl (lv_at hl 1 rfl) ?_
  refine r_get hC hw rk5 in_X7_weave_5 ρ hst.1 hst.2 0 (by decide) lk_X7_weave_15 (v := .int 66) rfl dX7_weave_10 ?_
  refine lv_bipush (v := 48) hx hb dX7_weave_13 (by decide) ?_
  refine lv_icmp_gt (tgt := 34) hx hb dX7_weave_15 (by decide) (fun _ => ?_) (fun c_ => absurd (by decide) c_)
  refine lv_aload_n hx hb dX7_weave_34 rfl (lv_at hl 1 rfl) ?_
  refine r_get hC hw rk5 in_X7_weave_5 ρ hst.1 hst.2 0 (by decide) lk_X7_weave_15 (v := .int 66) rfl dX7_weave_35 ?_
  refine lv_bipush (v := 49) hx hb dX7_weave_38 (by decide) ?_
  refine lv_icmp_lt (tgt := 68) hx hb dX7_weave_40 (by decide) (fun c_ => absurd c_ (by decide)) (fun _ => ?_)
  refine lv_aload_n hx hb dX7_weave_43 rfl (lv_at hl 1 rfl) ?_
  refine r_get hC hw rk5 in_X7_weave_5 ρ hst.1 hst.2 0 (by decide) lk_X7_weave_15 (v := .int 66) rfl dX7_weave_44 ?_
  refine lv_bipush (v := 58) hx hb dX7_weave_47 (by decide) ?_
  refine lv_icmp_gt (tgt := 68) hx hb dX7_weave_49 (by decide) (fun _ => ?_) (fun c_ => absurd (by decide) c_)
  refine lv_aload_n hx hb dX7_weave_68 rfl (lv_at hl 1 rfl) ?_
  refine r_get hC hw rk5 in_X7_weave_5 ρ hst.1 hst.2 0 (by decide) lk_X7_weave_15 (v := .int 66) rfl dX7_weave_69 ?_
  refine lv_bipush (v := 59) hx hb dX7_weave_72 (by decide) ?_
  refine lv_icmp_lt (tgt := 92) hx hb dX7_weave_74 (by decide) (fun c_ => absurd c_ (by decide)) (fun _ => ?_)
  refine lv_aload_n hx hb dX7_weave_77 rfl (lv_at hl 1 rfl) ?_
  refine r_get hC hw rk5 in_X7_weave_5 ρ hst.1 hst.2 0 (by decide) lk_X7_weave_15 (v := .int 66) rfl dX7_weave_78 ?_
  refine lv_bipush (v := 66) hx hb dX7_weave_81 (by decide) ?_
  refine lv_icmp_gt (tgt := 92) hx hb dX7_weave_83 (by decide) (fun c_ => absurd c_ (by decide)) (fun _ => ?_)
  refine lv_aload_n hx hb dX7_weave_86 rfl (lv_at hl 0 rfl) ?_
  refine lv_aload_n hx hb dX7_weave_87 rfl (lv_at hl 1 rfl) ?_
  refine r_ki hw (r_runV (rest := []) hC hw 5 (c_X7_useKnot_66 l _ ρ xa xb xc hd th hst hs hX hN) rk7 (wXl 5 (by decide)) wXc5 1 gX7_weave_X7_useKnot rfl rfl rfl (by decide +kernel) ⟨Nat.le_of_ble_eq_true rfl, Nat.le_of_ble_eq_true rfl⟩ rfl hl.1 rfl (Nat.le_of_ble_eq_true rfl) dX7_weave_88 ⟨Nat.le_of_ble_eq_true rfl, Nat.le_of_ble_eq_true rfl⟩) (fun r_2 u_3 H locs h_1 hw => ?_)
  exact r_iret hC hr hlk hw u_3 rfl h_1 (Nat.le_of_ble_eq_true rfl) (Nat.le_of_ble_eq_true rfl) dX7_weave_91

set_option maxHeartbeats 4000000 in
set_option maxRecDepth 100000 in
theorem c_X7_weave_70 (l : Launch) {D : va_G} {q : Nat → ClassId} {ad : Nat → Nat} {κ : KS} {τ : TAU} (sz : Nat) (ρ : Nat) (xa xb xc hd th : Int32) (hst : stepAt q ad κ τ ρ 70 xa xb xc) (hs : okStep 70 xa xb xc)(hX : WFx κ) (hN : nnOp κ 70 xa xb xc) : Met l yX7_weave wsX7_weave (rmz 3 67) (va_Pc [.ref (ad 5), .ref (ad ρ)] (rPre D q (wX q ad κ τ) sz)) (va_Qi (fun (r : Int32) (u : KS) => (r, u) = doR κ hd th 70 xa xb xc) (fun (u : KS) tt => rPo D (rA (wX q ad κ τ) sz) (wX q ad u τ) tt) (rA (wX q ad κ τ) sz)) 0 0 (rA (wX q ad κ τ) sz) := by
  have hi0 : vp_in xa 8 := hs.1
  have hi1 : vp_in xb 8 := hs.2.1
  refine r_start (cc := cX7_weave) (maxL := 2) (ret := (some .int)) (by decide) rfl (Nat.le_of_ble_eq_true rfl) ?_
  intro p e s m below meth c ls hC hr hlk hnm hsz hw hl
  have hx := hC.1
  have hb := hC.2.1
  have hl : lv_has ls 2 [(0, .ref (ad 5)), (1, .ref (ad ρ))] := hl
  refine lv_aload_n hx hb dX7_weave_0 rfl (lv_at hl 1 rfl) ?_
  refine r_get hC hw rk5 in_X7_weave_5 ρ hst.1 hst.2 0 (by decide) lk_X7_weave_15 (v := .int 70) rfl dX7_weave_1 ?_
  refine lv_bipush (v := 39) hx hb dX7_weave_4 (by decide) ?_
  refine lv_icmp_lt (tgt := 34) hx hb dX7_weave_6 (by decide) (fun c_ => absurd c_ (by decide)) (fun _ => ?_)
  refine lv_aload_n hx hb dX7_weave_9 rfl (lv_at hl 1 rfl) ?_
  refine r_get hC hw rk5 in_X7_weave_5 ρ hst.1 hst.2 0 (by decide) lk_X7_weave_15 (v := .int 70) rfl dX7_weave_10 ?_
  refine lv_bipush (v := 48) hx hb dX7_weave_13 (by decide) ?_
  refine lv_icmp_gt (tgt := 34) hx hb dX7_weave_15 (by decide) (fun _ => ?_) (fun c_ => absurd (by decide) c_)
  refine lv_aload_n hx hb dX7_weave_34 rfl (lv_at hl 1 rfl) ?_
  refine r_get hC hw rk5 in_X7_weave_5 ρ hst.1 hst.2 0 (by decide) lk_X7_weave_15 (v := .int 70) rfl dX7_weave_35 ?_
  refine lv_bipush (v := 49) hx hb dX7_weave_38 (by decide) ?_
  refine lv_icmp_lt (tgt := 68) hx hb dX7_weave_40 (by decide) (fun c_ => absurd c_ (by decide)) (fun _ => ?_)
  refine lv_aload_n hx hb dX7_weave_43 rfl (lv_at hl 1 rfl) ?_
  refine r_get hC hw rk5 in_X7_weave_5 ρ hst.1 hst.2 0 (by decide) lk_X7_weave_15 (v := .int 70) rfl dX7_weave_44 ?_
  refine lv_bipush (v := 58) hx hb dX7_weave_47 (by decide) ?_
  refine lv_icmp_gt (tgt := 68) hx hb dX7_weave_49 (by decide) (fun _ => ?_) (fun c_ => absurd (by decide) c_)
  refine lv_aload_n hx hb dX7_weave_68 rfl (lv_at hl 1 rfl) ?_
  refine r_get hC hw rk5 in_X7_weave_5 ρ hst.1 hst.2 0 (by decide) lk_X7_weave_15 (v := .int 70) rfl dX7_weave_69 ?_
  refine lv_bipush (v := 59) hx hb dX7_weave_72 (by decide) ?_
  refine lv_icmp_lt (tgt := 92) hx hb dX7_weave_74 (by decide) (fun c_ => absurd c_ (by decide)) (fun _ => ?_)
  refine lv_aload_n hx hb dX7_weave_77 rfl (lv_at hl 1 rfl) ?_
  refine r_get hC hw rk5 in_X7_weave_5 ρ hst.1 hst.2 0 (by decide) lk_X7_weave_15 (v := .int 70) rfl dX7_weave_78 ?_
  refine lv_bipush (v := 66) hx hb dX7_weave_81 (by decide) ?_
  refine lv_icmp_gt (tgt := 92) hx hb dX7_weave_83 (by decide) (fun _ => ?_) (fun c_ => absurd (by decide) c_)
  refine lv_aload_n hx hb dX7_weave_92 rfl (lv_at hl 1 rfl) ?_
  refine r_get hC hw rk5 in_X7_weave_5 ρ hst.1 hst.2 0 (by decide) lk_X7_weave_15 (v := .int 70) rfl dX7_weave_93 ?_
  refine lv_lookup (off := 84) (tgt := 180) hx hb dX7_weave_96 (by decide) (by decide) (by decide) ?_
  refine lv_aload_n hx hb dX7_weave_180 rfl (lv_at hl 0 rfl) ?_
  refine lv_aload_n hx hb dX7_weave_181 rfl (lv_at hl 1 rfl) ?_
  refine r_ki hw (r_runV (rest := []) hC hw 5 (c_X7_useFault_70 l _ ρ xa xb xc hd th hst hs hX hN) rk7 (wXl 5 (by decide)) wXc5 1 gX7_weave_X7_useFault rfl rfl rfl (by decide +kernel) ⟨Nat.le_of_ble_eq_true rfl, Nat.le_of_ble_eq_true rfl⟩ rfl hl.1 rfl (Nat.le_of_ble_eq_true rfl) dX7_weave_182 ⟨Nat.le_of_ble_eq_true rfl, Nat.le_of_ble_eq_true rfl⟩) (fun r_2 u_3 H locs h_1 hw => ?_)
  exact r_iret hC hr hlk hw u_3 rfl h_1 (Nat.le_of_ble_eq_true rfl) (Nat.le_of_ble_eq_true rfl) dX7_weave_185

set_option maxHeartbeats 4000000 in
set_option maxRecDepth 100000 in
theorem c_X7_weave_71 (l : Launch) {D : va_G} {q : Nat → ClassId} {ad : Nat → Nat} {κ : KS} {τ : TAU} (sz : Nat) (ρ : Nat) (xa xb xc hd th : Int32) (hst : stepAt q ad κ τ ρ 71 xa xb xc) (hs : okStep 71 xa xb xc)(hX : WFx κ) (hN : nnOp κ 71 xa xb xc) : Met l yX7_weave wsX7_weave (rmz 3 67) (va_Pc [.ref (ad 5), .ref (ad ρ)] (rPre D q (wX q ad κ τ) sz)) (va_Qi (fun (r : Int32) (u : KS) => (r, u) = doR κ hd th 71 xa xb xc) (fun (u : KS) tt => rPo D (rA (wX q ad κ τ) sz) (wX q ad u τ) tt) (rA (wX q ad κ τ) sz)) 0 0 (rA (wX q ad κ τ) sz) := by
  have hi0 : vp_in xa 8 := hs.1
  have hi1 : vp_in xb 8 := hs.2.1
  refine r_start (cc := cX7_weave) (maxL := 2) (ret := (some .int)) (by decide) rfl (Nat.le_of_ble_eq_true rfl) ?_
  intro p e s m below meth c ls hC hr hlk hnm hsz hw hl
  have hx := hC.1
  have hb := hC.2.1
  have hl : lv_has ls 2 [(0, .ref (ad 5)), (1, .ref (ad ρ))] := hl
  refine lv_aload_n hx hb dX7_weave_0 rfl (lv_at hl 1 rfl) ?_
  refine r_get hC hw rk5 in_X7_weave_5 ρ hst.1 hst.2 0 (by decide) lk_X7_weave_15 (v := .int 71) rfl dX7_weave_1 ?_
  refine lv_bipush (v := 39) hx hb dX7_weave_4 (by decide) ?_
  refine lv_icmp_lt (tgt := 34) hx hb dX7_weave_6 (by decide) (fun c_ => absurd c_ (by decide)) (fun _ => ?_)
  refine lv_aload_n hx hb dX7_weave_9 rfl (lv_at hl 1 rfl) ?_
  refine r_get hC hw rk5 in_X7_weave_5 ρ hst.1 hst.2 0 (by decide) lk_X7_weave_15 (v := .int 71) rfl dX7_weave_10 ?_
  refine lv_bipush (v := 48) hx hb dX7_weave_13 (by decide) ?_
  refine lv_icmp_gt (tgt := 34) hx hb dX7_weave_15 (by decide) (fun _ => ?_) (fun c_ => absurd (by decide) c_)
  refine lv_aload_n hx hb dX7_weave_34 rfl (lv_at hl 1 rfl) ?_
  refine r_get hC hw rk5 in_X7_weave_5 ρ hst.1 hst.2 0 (by decide) lk_X7_weave_15 (v := .int 71) rfl dX7_weave_35 ?_
  refine lv_bipush (v := 49) hx hb dX7_weave_38 (by decide) ?_
  refine lv_icmp_lt (tgt := 68) hx hb dX7_weave_40 (by decide) (fun c_ => absurd c_ (by decide)) (fun _ => ?_)
  refine lv_aload_n hx hb dX7_weave_43 rfl (lv_at hl 1 rfl) ?_
  refine r_get hC hw rk5 in_X7_weave_5 ρ hst.1 hst.2 0 (by decide) lk_X7_weave_15 (v := .int 71) rfl dX7_weave_44 ?_
  refine lv_bipush (v := 58) hx hb dX7_weave_47 (by decide) ?_
  refine lv_icmp_gt (tgt := 68) hx hb dX7_weave_49 (by decide) (fun _ => ?_) (fun c_ => absurd (by decide) c_)
  refine lv_aload_n hx hb dX7_weave_68 rfl (lv_at hl 1 rfl) ?_
  refine r_get hC hw rk5 in_X7_weave_5 ρ hst.1 hst.2 0 (by decide) lk_X7_weave_15 (v := .int 71) rfl dX7_weave_69 ?_
  refine lv_bipush (v := 59) hx hb dX7_weave_72 (by decide) ?_
  refine lv_icmp_lt (tgt := 92) hx hb dX7_weave_74 (by decide) (fun c_ => absurd c_ (by decide)) (fun _ => ?_)
  refine lv_aload_n hx hb dX7_weave_77 rfl (lv_at hl 1 rfl) ?_
  refine r_get hC hw rk5 in_X7_weave_5 ρ hst.1 hst.2 0 (by decide) lk_X7_weave_15 (v := .int 71) rfl dX7_weave_78 ?_
  refine lv_bipush (v := 66) hx hb dX7_weave_81 (by decide) ?_
  refine lv_icmp_gt (tgt := 92) hx hb dX7_weave_83 (by decide) (fun _ => ?_) (fun c_ => absurd (by decide) c_)
  refine lv_aload_n hx hb dX7_weave_92 rfl (lv_at hl 1 rfl) ?_
  refine r_get hC hw rk5 in_X7_weave_5 ρ hst.1 hst.2 0 (by decide) lk_X7_weave_15 (v := .int 71) rfl dX7_weave_93 ?_
  refine lv_lookup (off := 84) (tgt := 180) hx hb dX7_weave_96 (by decide) (by decide) (by decide) ?_
  refine lv_aload_n hx hb dX7_weave_180 rfl (lv_at hl 0 rfl) ?_
  refine lv_aload_n hx hb dX7_weave_181 rfl (lv_at hl 1 rfl) ?_
  refine r_ki hw (r_runV (rest := []) hC hw 5 (c_X7_useFault_71 l _ ρ xa xb xc hd th hst hs hX hN) rk7 (wXl 5 (by decide)) wXc5 1 gX7_weave_X7_useFault rfl rfl rfl (by decide +kernel) ⟨Nat.le_of_ble_eq_true rfl, Nat.le_of_ble_eq_true rfl⟩ rfl hl.1 rfl (Nat.le_of_ble_eq_true rfl) dX7_weave_182 ⟨Nat.le_of_ble_eq_true rfl, Nat.le_of_ble_eq_true rfl⟩) (fun r_2 u_3 H locs h_1 hw => ?_)
  exact r_iret hC hr hlk hw u_3 rfl h_1 (Nat.le_of_ble_eq_true rfl) (Nat.le_of_ble_eq_true rfl) dX7_weave_185

