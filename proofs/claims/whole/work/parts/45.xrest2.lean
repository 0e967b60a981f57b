theorem rB925 {n : Nat} (h : n ≤ 2 ^ 212) : n * 2 ^ 925 ≤ 2 ^ 1137 := by
  rw [show 1137 = 212 + 925 by decide, Nat.pow_add]
  exact Nat.mul_le_mul_right _ h
set_option maxHeartbeats 4000000 in
set_option maxRecDepth 100000 in
theorem c_X2_restOfSingles (l : Launch) {D : va_G} {q : Nat → ClassId} {ad : Nat → Nat} {κ : KS} {τ : TAU} (sz : Nat) (ρ : Nat) (xa xb xc : Int32) (x0 y0 : UInt32) (hst : stepAt q ad κ τ ρ 23 xa xb xc) (hs : okStep 23 xa xb xc)(hxB : ffB x0) (hyB : ffB y0) : Met l yX2_restOfSingles wsX2_restOfSingles (rmz 1 29) (va_Pc [.ref (ad 4), .ref (ad ρ), .float x0, .float y0] (rPre D q (wX q ad κ τ) sz)) (va_Qi (fun (r : Int32) (u : KS) => (r, u) = if Op.cmpValue (FP.fcmp y0 FP.fconst0) .l = 0 then (6, κ) else (0, uF κ (aN xa) (FP.frem x0 y0))) (fun (u : KS) tt => rPo D (rA (wX q ad κ τ) sz) (wX q ad u τ) tt) (rA (wX q ad κ τ) sz)) 0 0 (rA (wX q ad κ τ) sz) := by
  have hi0 : vp_in xa 4 := hs.1
  have hi1 : vp_in xb 4 := hs.2.1
  have hi2 : vp_in xc 4 := hs.2.2
  refine r_start (cc := cX2_restOfSingles) (maxL := 4) (ret := (some .int)) (by decide) rfl (Nat.le_of_ble_eq_true rfl) ?_
  intro p e s m below meth c ls hC hr hlk hnm hsz hw hl
  have hx := hC.1
  have hb := hC.2.1
  have hl : lv_has ls 4 [(0, .ref (ad 4)), (1, .ref (ad ρ)), (2, .float x0), (3, .float y0)] := hl
  refine lv_fload_n hx hb dX2_restOfSingles_0 rfl (lv_at hl 3 rfl) ?_
  refine lv_fconst0 hx hb dX2_restOfSingles_1 ?_
  refine lv_fcmp hx hb dX2_restOfSingles_2 ?_
  refine lv_if_ne (tgt := 9) hx hb dX2_restOfSingles_3 (by decide) (fun c_1 => ?_) (fun c_1 => ?_)
  · refine lv_aload_n hx hb dX2_restOfSingles_9 rfl (lv_at hl 0 rfl) ?_
    refine r_get hC hw rk2 in_X2_restOfSingles_2 4 (wXl 4 (by decide)) wXc4 0 (by decide) lk_X2_restOfSingles_9 (v := .ref (ad 2)) rfl dX2_restOfSingles_10 ?_
    refine lv_aload_n hx hb dX2_restOfSingles_13 rfl (lv_at hl 1 rfl) ?_
    refine r_get hC hw rk5 in_X2_restOfSingles_5 ρ hst.1 hst.2 1 (by decide) lk_X2_restOfSingles_44 (v := .int xa) rfl dX2_restOfSingles_14 ?_
    refine lv_fload_n hx hb dX2_restOfSingles_17 rfl (lv_at hl 2 rfl) ?_
    refine lv_f2d hx hb dX2_restOfSingles_18 (fdB_nn (f2d_B hxB)) ?_
    refine lv_fload_n hx hb dX2_restOfSingles_19 rfl (lv_at hl 3 rfl) ?_
    refine lv_f2d hx hb dX2_restOfSingles_20 (fdB_nn (f2d_B hyB)) ?_
    obtain ⟨sx, nx, hxU, hxn⟩ := hxB
    obtain ⟨sy, ny, hyU, hyn⟩ := hyB
    have hy0 : ¬ ny = 0 := rZ32 hyU c_1
    obtain ⟨sx2, nx2, hxU2, hxn2⟩ := f2d_B ⟨sx, nx, hxU, hxn⟩
    obtain ⟨sy2, ny2, hyU2, hyn2⟩ := f2d_B ⟨sy, ny, hyU, hyn⟩
    have hS := rS hxU hyU hy0
    refine r_kd hw (r_runS (rest := [.int xa, .ref (ad 2)]) hC hw (c_X2_restOf l _ _ (FP.f2d x0) (FP.f2d y0) sx sy _ _ (ff_f2d hxU) (ff_f2d hyU) (Nat.mul_ne_zero hy0 (Nat.pos_iff_ne_zero.mp (Nat.two_pow_pos _))) (rB925 hxn) (rB925 hyn)) 2 gX2_restOfSingles_X2_restOf rfl rfl rfl (by decide +kernel) ⟨Nat.le_of_ble_eq_true rfl, Nat.le_of_ble_eq_true rfl⟩ rfl hl.1 rfl (Nat.le_of_ble_eq_true rfl) dX2_restOfSingles_21 ⟨Nat.le_of_ble_eq_true rfl, Nat.le_of_ble_eq_true rfl⟩) (fun r_3 u_4 H locs h_2 hw => ?_)
    subst h_2
    refine lv_d2f hx hb dX2_restOfSingles_24 (by rw [hS]; exact ff_nn (ff_rem hxU hyU hy0)) ?_
    refine r_kv hw (r_runV (rest := []) hC hw 2 (c_X3_setSingle l _ _ 2 10 xa (FP.d2f (FP.drem (FP.f2d x0) (FP.f2d y0))) (by assumption) (wXl 2 (by decide)) wXc2 (wXl 10 (by decide)) wXc10) rk3 (wXl 2 (by decide)) wXc2 2 gX2_restOfSingles_X3_setSingle rfl rfl rfl (by decide +kernel) ⟨Nat.le_of_ble_eq_true rfl, Nat.le_of_ble_eq_true rfl⟩ rfl hl.1 rfl (Nat.le_of_ble_eq_true rfl) dX2_restOfSingles_25 ⟨Nat.le_of_ble_eq_true rfl, Nat.le_of_ble_eq_true rfl⟩) (fun u_7 H locs h_5 hw => ?_)
    replace hw := xS_singles hw
    refine lv_iconst (v := 0) hx hb dX2_restOfSingles_28 (by decide) ?_
    exact r_iret hC hr hlk hw (uF κ (aN xa) (FP.d2f (FP.drem (FP.f2d x0) (FP.f2d y0)))) rfl (by rw [hS]; exact (if_neg c_1).symm) (Nat.le_of_ble_eq_true rfl) (Nat.le_of_ble_eq_true rfl) dX2_restOfSingles_29
  · refine lv_bipush (v := 6) hx hb dX2_restOfSingles_6 (by decide) ?_
    exact r_iret hC hr hlk hw κ rfl (if_pos c_1).symm (Nat.le_of_ble_eq_true rfl) (Nat.le_of_ble_eq_true rfl) dX2_restOfSingles_8

set_option maxHeartbeats 4000000 in
set_option maxRecDepth 100000 in
theorem c_X2_restOfDoubles (l : Launch) {D : va_G} {q : Nat → ClassId} {ad : Nat → Nat} {κ : KS} {τ : TAU} (sz : Nat) (ρ : Nat) (xa xb xc : Int32) (x0 y0 : UInt64) (hst : stepAt q ad κ τ ρ 24 xa xb xc) (hs : okStep 24 xa xb xc)(hxB : fdB x0) (hyB : fdB y0) : Met l yX2_restOfDoubles wsX2_restOfDoubles (rmz 1 29) (va_Pc [.ref (ad 4), .ref (ad ρ), .double x0, .double y0] (rPre D q (wX q ad κ τ) sz)) (va_Qi (fun (r : Int32) (u : KS) => (r, u) = if Op.cmpValue (FP.dcmp y0 FP.dconst0) .l = 0 then (6, κ) else (0, uD κ 0 (aN xa) (FP.drem x0 y0))) (fun (u : KS) tt => rPo D (rA (wX q ad κ τ) sz) (wX q ad u τ) tt) (rA (wX q ad κ τ) sz)) 0 0 (rA (wX q ad κ τ) sz) := by
  have hi0 : vp_in xa 4 := hs.1
  have hi1 : vp_in xb 4 := hs.2.1
  have hi2 : vp_in xc 4 := hs.2.2
  refine r_start (cc := cX2_restOfDoubles) (maxL := 6) (ret := (some .int)) (by decide) rfl (Nat.le_of_ble_eq_true rfl) ?_
  intro p e s m below meth c ls hC hr hlk hnm hsz hw hl
  have hx := hC.1
  have hb := hC.2.1
  have hl : lv_has ls 6 [(0, .ref (ad 4)), (1, .ref (ad ρ)), (2, .double x0), (4, .double y0)] := hl
  refine lv_dload hx hb dX2_restOfDoubles_0 (lv_at hl 3 rfl) ?_
  refine lv_dconst0 hx hb dX2_restOfDoubles_2 ?_
  refine lv_dcmp hx hb dX2_restOfDoubles_3 ?_
  refine lv_if_ne (tgt := 10) hx hb dX2_restOfDoubles_4 (by decide) (fun c_1 => ?_) (fun c_1 => ?_)
  · refine lv_aload_n hx hb dX2_restOfDoubles_10 rfl (lv_at hl 0 rfl) ?_
    refine r_get hC hw rk2 in_X2_restOfDoubles_2 4 (wXl 4 (by decide)) wXc4 0 (by decide) lk_X2_restOfDoubles_9 (v := .ref (ad 2)) rfl dX2_restOfDoubles_11 ?_
    refine lv_aload_n hx hb dX2_restOfDoubles_14 rfl (lv_at hl 1 rfl) ?_
    refine r_get hC hw rk5 in_X2_restOfDoubles_5 ρ hst.1 hst.2 1 (by decide) lk_X2_restOfDoubles_44 (v := .int xa) rfl dX2_restOfDoubles_15 ?_
    refine lv_dload_n hx hb dX2_restOfDoubles_18 rfl (lv_at hl 2 rfl) ?_
    refine lv_dload hx hb dX2_restOfDoubles_19 (lv_at hl 3 rfl) ?_
    obtain ⟨sx, nx, hxU, hxn⟩ := hxB
    obtain ⟨sy, ny, hyU, hyn⟩ := hyB
    have hy0 : ¬ ny = 0 := rZ64 hyU c_1
    refine r_kd hw (r_runS (rest := [.int xa, .ref (ad 2)]) hC hw (c_X2_restOf l _ _ x0 y0 sx sy nx ny hxU hyU hy0 hxn hyn) 2 gX2_restOfDoubles_X2_restOf rfl rfl rfl (by decide +kernel) ⟨Nat.le_of_ble_eq_true rfl, Nat.le_of_ble_eq_true rfl⟩ rfl hl.1 rfl (Nat.le_of_ble_eq_true rfl) dX2_restOfDoubles_21 ⟨Nat.le_of_ble_eq_true rfl, Nat.le_of_ble_eq_true rfl⟩) (fun r_3 u_4 H locs h_2 hw => ?_)
    subst h_2
    refine r_kv hw (r_runV (rest := []) hC hw 2 (c_X3_setDouble l _ _ 2 11 xa (FP.drem x0 y0) (by assumption) (wXl 2 (by decide)) wXc2 (wXl 11 (by decide)) wXc11) rk3 (wXl 2 (by decide)) wXc2 2 gX2_restOfDoubles_X3_setDouble rfl rfl rfl (by decide +kernel) ⟨Nat.le_of_ble_eq_true rfl, Nat.le_of_ble_eq_true rfl⟩ rfl hl.1 rfl (Nat.le_of_ble_eq_true rfl) dX2_restOfDoubles_24 ⟨Nat.le_of_ble_eq_true rfl, Nat.le_of_ble_eq_true rfl⟩) (fun u_7 H locs h_5 hw => ?_)
    replace hw := xS_doubles hw
    refine lv_iconst (v := 0) hx hb dX2_restOfDoubles_27 (by decide) ?_
    exact r_iret hC hr hlk hw (uD κ 0 (aN xa) (FP.drem x0 y0)) rfl (if_neg c_1).symm (Nat.le_of_ble_eq_true rfl) (Nat.le_of_ble_eq_true rfl) dX2_restOfDoubles_28
  · refine lv_bipush (v := 6) hx hb dX2_restOfDoubles_7 (by decide) ?_
    exact r_iret hC hr hlk hw κ rfl (if_pos c_1).symm (Nat.le_of_ble_eq_true rfl) (Nat.le_of_ble_eq_true rfl) dX2_restOfDoubles_9

set_option maxHeartbeats 4000000 in
set_option maxRecDepth 100000 in
theorem c_X2_reckonBroken_23 (l : Launch) {D : va_G} {q : Nat → ClassId} {ad : Nat → Nat} {κ : KS} {τ : TAU} (sz : Nat) (ρ : Nat) (xa xb xc hd th : Int32) (hst : stepAt q ad κ τ ρ 23 xa xb xc) (hs : okStep 23 xa xb xc)(hB : FB κ) : Met l yX2_reckonBroken wsX2_reckonBroken (rmz 2 54) (va_Pc [.ref (ad 4), .ref (ad ρ)] (rPre D q (wX q ad κ τ) sz)) (va_Qi (fun (r : Int32) (u : KS) => (r, u) = doR κ hd th 23 xa xb xc) (fun (u : KS) tt => rPo D (rA (wX q ad κ τ) sz) (wX q ad u τ) tt) (rA (wX q ad κ τ) sz)) 0 0 (rA (wX q ad κ τ) sz) := by
  have hi0 : vp_in xa 4 := hs.1
  have hi1 : vp_in xb 4 := hs.2.1
  have hi2 : vp_in xc 4 := hs.2.2
  refine r_start (cc := cX2_reckonBroken) (maxL := 5) (ret := (some .int)) (by decide) rfl (Nat.le_of_ble_eq_true rfl) ?_
  intro p e s m below meth c ls hC hr hlk hnm hsz hw hl
  have hx := hC.1
  have hb := hC.2.1
  have hl : lv_has ls 5 [(0, .ref (ad 4)), (1, .ref (ad ρ))] := hl
  refine lv_aload_n hx hb dX2_reckonBroken_0 rfl (lv_at hl 0 rfl) ?_
  refine r_get hC hw rk2 in_X2_reckonBroken_2 4 (wXl 4 (by decide)) wXc4 0 (by decide) lk_X2_reckonBroken_9 (v := .ref (ad 2)) rfl dX2_reckonBroken_1 ?_
  refine lv_aload_n hx hb dX2_reckonBroken_4 rfl (lv_at hl 1 rfl) ?_
  refine r_get hC hw rk5 in_X2_reckonBroken_5 ρ hst.1 hst.2 2 (by decide) lk_X2_reckonBroken_28 (v := .int xb) rfl dX2_reckonBroken_5 ?_
  refine r_kf hw (r_runV (rest := []) hC hw 2 (c_X3_getSingle l _ _ 2 10 xb (wXl 2 (by decide)) wXc2 (wXl 10 (by decide)) wXc10) rk3 (wXl 2 (by decide)) wXc2 1 gX2_reckonBroken_X3_getSingle rfl rfl rfl (by decide +kernel) ⟨Nat.le_of_ble_eq_true rfl, Nat.le_of_ble_eq_true rfl⟩ rfl hl.1 rfl (Nat.le_of_ble_eq_true rfl) dX2_reckonBroken_8 ⟨Nat.le_of_ble_eq_true rfl, Nat.le_of_ble_eq_true rfl⟩) (fun r_2 u_3 H locs h_1 hw => ?_)
  subst h_1
  refine r_topv (y := .float (sF κ (aN xb))) (congrArg _ (gN_in (by assumption) (by decide))) ?_
  refine lv_fstore_n (lv' := [(2, .float (sF κ (aN xb))), (0, .ref (ad 4)), (1, .ref (ad ρ))]) hx hb dX2_reckonBroken_11 rfl hl (by decide) rfl (fun ls hl => ?_)
  refine lv_aload_n hx hb dX2_reckonBroken_12 rfl (lv_at hl 1 rfl) ?_
  refine r_get hC hw rk2 in_X2_reckonBroken_2 4 (wXl 4 (by decide)) wXc4 0 (by decide) lk_X2_reckonBroken_9 (v := .ref (ad 2)) rfl dX2_reckonBroken_13 ?_
  refine lv_aload_n hx hb dX2_reckonBroken_16 rfl (lv_at hl 2 rfl) ?_
  refine r_get hC hw rk5 in_X2_reckonBroken_5 ρ hst.1 hst.2 2 (by decide) lk_X2_reckonBroken_28 (v := .int xb) rfl dX2_reckonBroken_17 ?_
  refine r_kd hw (r_runV (rest := []) hC hw 2 (c_X3_getDouble l _ _ 2 11 xb (wXl 2 (by decide)) wXc2 (wXl 11 (by decide)) wXc11) rk3 (wXl 2 (by decide)) wXc2 1 gX2_reckonBroken_X3_getDouble rfl rfl rfl (by decide +kernel) ⟨Nat.le_of_ble_eq_true rfl, Nat.le_of_ble_eq_true rfl⟩ rfl hl.1 rfl (Nat.le_of_ble_eq_true rfl) dX2_reckonBroken_20 ⟨Nat.le_of_ble_eq_true rfl, Nat.le_of_ble_eq_true rfl⟩) (fun r_5 u_6 H locs h_4 hw => ?_)
  subst h_4
  refine lv_dstore_n (lv' := [(3, .double (gN 4 (sD κ 0) FP.dconst0 xb)), (2, .float (sF κ (aN xb))), (0, .ref (ad 4)), (1, .ref (ad ρ))]) hx hb dX2_reckonBroken_23 rfl hl (by decide) rfl (fun ls hl => ?_)
  refine lv_aload_n hx hb dX2_reckonBroken_24 rfl (lv_at hl 3 rfl) ?_
  refine r_get hC hw rk5 in_X2_reckonBroken_5 ρ hst.1 hst.2 0 (by decide) lk_X2_reckonBroken_15 (v := .int 23) rfl dX2_reckonBroken_25 ?_
  refine lv_tableIn (tgt := 240) hx hb dX2_reckonBroken_28 (by decide) (by decide) (by rfl) (by decide) ?_
  refine lv_aload_n hx hb dX2_reckonBroken_240 rfl (lv_at hl 2 rfl) ?_
  refine lv_aload_n hx hb dX2_reckonBroken_241 rfl (lv_at hl 3 rfl) ?_
  refine lv_fload_n hx hb dX2_reckonBroken_242 rfl (lv_at hl 1 rfl) ?_
  refine lv_aload_n hx hb dX2_reckonBroken_243 rfl (lv_at hl 2 rfl) ?_
  refine r_get hC hw rk2 in_X2_reckonBroken_2 4 (wXl 4 (by decide)) wXc4 0 (by decide) lk_X2_reckonBroken_9 (v := .ref (ad 2)) rfl dX2_reckonBroken_244 ?_
  refine lv_aload_n hx hb dX2_reckonBroken_247 rfl (lv_at hl 3 rfl) ?_
  refine r_get hC hw rk5 in_X2_reckonBroken_5 ρ hst.1 hst.2 3 (by decide) lk_X2_reckonBroken_37 (v := .int xc) rfl dX2_reckonBroken_248 ?_
  refine r_kf hw (r_runV (rest := [.float (sF κ (aN xb)), .ref (ad ρ), .ref (ad 4)]) hC hw 2 (c_X3_getSingle l _ _ 2 10 xc (wXl 2 (by decide)) wXc2 (wXl 10 (by decide)) wXc10) rk3 (wXl 2 (by decide)) wXc2 1 gX2_reckonBroken_X3_getSingle rfl rfl rfl (by decide +kernel) ⟨Nat.le_of_ble_eq_true rfl, Nat.le_of_ble_eq_true rfl⟩ rfl hl.1 rfl (Nat.le_of_ble_eq_true rfl) dX2_reckonBroken_251 ⟨Nat.le_of_ble_eq_true rfl, Nat.le_of_ble_eq_true rfl⟩) (fun r_8 u_9 H locs h_7 hw => ?_)
  subst h_7
  refine r_topv (y := .float (sF κ (aN xc))) (congrArg _ (gN_in (by assumption) (by decide))) ?_
  refine r_ki hw (r_runV (rest := []) hC hw 4 (c_X2_restOfSingles l _ ρ xa xb xc (sF κ (aN xb)) (sF κ (aN xc)) hst hs (hB.1 _) (hB.1 _)) rk2 (wXl 4 (by decide)) wXc4 3 gX2_reckonBroken_X2_restOfSingles rfl rfl rfl (by decide +kernel) ⟨Nat.le_of_ble_eq_true rfl, Nat.le_of_ble_eq_true rfl⟩ rfl hl.1 rfl (Nat.le_of_ble_eq_true rfl) dX2_reckonBroken_254 ⟨Nat.le_of_ble_eq_true rfl, Nat.le_of_ble_eq_true rfl⟩) (fun r_11 u_12 H locs h_10 hw => ?_)
  have hd2 : (r_11, u_12) = doR κ hd th 23 xa xb xc := by
    rw [h_10]
    by_cases hz : Op.cmpValue (FP.fcmp (sF κ (aN xc)) FP.fconst0) .l = 0
    · rw [if_pos hz]; exact (doRf (κ := κ) (hd := hd) (th := th) (k := 23) (a := xa) (b := xb) (c := xc) (if_pos hz) (by decide)).symm
    · rw [if_neg hz]; exact (doR0 (κ := κ) (hd := hd) (th := th) (k := 23) (a := xa) (b := xb) (c := xc) (if_neg hz)).symm
  exact r_iret hC hr hlk hw u_12 rfl hd2 (Nat.le_of_ble_eq_true rfl) (Nat.le_of_ble_eq_true rfl) dX2_reckonBroken_257

set_option maxHeartbeats 4000000 in
set_option maxRecDepth 100000 in
theorem c_X2_reckonBroken_24 (l : Launch) {D : va_G} {q : Nat → ClassId} {ad : Nat → Nat} {κ : KS} {τ : TAU} (sz : Nat) (ρ : Nat) (xa xb xc hd th : Int32) (hst : stepAt q ad κ τ ρ 24 xa xb xc) (hs : okStep 24 xa xb xc)(hB : FB κ) : Met l yX2_reckonBroken wsX2_reckonBroken (rmz 2 54) (va_Pc [.ref (ad 4), .ref (ad ρ)] (rPre D q (wX q ad κ τ) sz)) (va_Qi (fun (r : Int32) (u : KS) => (r, u) = doR κ hd th 24 xa xb xc) (fun (u : KS) tt => rPo D (rA (wX q ad κ τ) sz) (wX q ad u τ) tt) (rA (wX q ad κ τ) sz)) 0 0 (rA (wX q ad κ τ) sz) := by
  have hi0 : vp_in xa 4 := hs.1
  have hi1 : vp_in xb 4 := hs.2.1
  have hi2 : vp_in xc 4 := hs.2.2
  refine r_start (cc := cX2_reckonBroken) (maxL := 5) (ret := (some .int)) (by decide) rfl (Nat.le_of_ble_eq_true rfl) ?_
  intro p e s m below meth c ls hC hr hlk hnm hsz hw hl
  have hx := hC.1
  have hb := hC.2.1
  have hl : lv_has ls 5 [(0, .ref (ad 4)), (1, .ref (ad ρ))] := hl
  refine lv_aload_n hx hb dX2_reckonBroken_0 rfl (lv_at hl 0 rfl) ?_
  refine r_get hC hw rk2 in_X2_reckonBroken_2 4 (wXl 4 (by decide)) wXc4 0 (by decide) lk_X2_reckonBroken_9 (v := .ref (ad 2)) rfl dX2_reckonBroken_1 ?_
  refine lv_aload_n hx hb dX2_reckonBroken_4 rfl (lv_at hl 1 rfl) ?_
  refine r_get hC hw rk5 in_X2_reckonBroken_5 ρ hst.1 hst.2 2 (by decide) lk_X2_reckonBroken_28 (v := .int xb) rfl dX2_reckonBroken_5 ?_
  refine r_kf hw (r_runV (rest := []) hC hw 2 (c_X3_getSingle l _ _ 2 10 xb (wXl 2 (by decide)) wXc2 (wXl 10 (by decide)) wXc10) rk3 (wXl 2 (by decide)) wXc2 1 gX2_reckonBroken_X3_getSingle rfl rfl rfl (by decide +kernel) ⟨Nat.le_of_ble_eq_true rfl, Nat.le_of_ble_eq_true rfl⟩ rfl hl.1 rfl (Nat.le_of_ble_eq_true rfl) dX2_reckonBroken_8 ⟨Nat.le_of_ble_eq_true rfl, Nat.le_of_ble_eq_true rfl⟩) (fun r_2 u_3 H locs h_1 hw => ?_)
  subst h_1
  refine lv_fstore_n (lv' := [(2, .float (gN 4 (sF κ) FP.fconst0 xb)), (0, .ref (ad 4)), (1, .ref (ad ρ))]) hx hb dX2_reckonBroken_11 rfl hl (by decide) rfl (fun ls hl => ?_)
  refine lv_aload_n hx hb dX2_reckonBroken_12 rfl (lv_at hl 1 rfl) ?_
  refine r_get hC hw rk2 in_X2_reckonBroken_2 4 (wXl 4 (by decide)) wXc4 0 (by decide) lk_X2_reckonBroken_9 (v := .ref (ad 2)) rfl dX2_reckonBroken_13 ?_
  refine lv_aload_n hx hb dX2_reckonBroken_16 rfl (lv_at hl 2 rfl) ?_
  refine r_get hC hw rk5 in_X2_reckonBroken_5 ρ hst.1 hst.2 2 (by decide) lk_X2_reckonBroken_28 (v := .int xb) rfl dX2_reckonBroken_17 ?_
  refine r_kd hw (r_runV (rest := []) hC hw 2 (c_X3_getDouble l _ _ 2 11 xb (wXl 2 (by decide)) wXc2 (wXl 11 (by decide)) wXc11) rk3 (wXl 2 (by decide)) wXc2 1 gX2_reckonBroken_X3_getDouble rfl rfl rfl (by decide +kernel) ⟨Nat.le_of_ble_eq_true rfl, Nat.le_of_ble_eq_true rfl⟩ rfl hl.1 rfl (Nat.le_of_ble_eq_true rfl) dX2_reckonBroken_20 ⟨Nat.le_of_ble_eq_true rfl, Nat.le_of_ble_eq_true rfl⟩) (fun r_5 u_6 H locs h_4 hw => ?_)
  subst h_4
  refine r_topv (y := .double (sD κ 0 (aN xb))) (congrArg _ (gN_in (by assumption) (by decide))) ?_
  refine lv_dstore_n (lv' := [(3, .double (sD κ 0 (aN xb))), (2, .float (gN 4 (sF κ) FP.fconst0 xb)), (0, .ref (ad 4)), (1, .ref (ad ρ))]) hx hb dX2_reckonBroken_23 rfl hl (by decide) rfl (fun ls hl => ?_)
  refine lv_aload_n hx hb dX2_reckonBroken_24 rfl (lv_at hl 3 rfl) ?_
  refine r_get hC hw rk5 in_X2_reckonBroken_5 ρ hst.1 hst.2 0 (by decide) lk_X2_reckonBroken_15 (v := .int 24) rfl dX2_reckonBroken_25 ?_
  refine lv_tableIn (tgt := 258) hx hb dX2_reckonBroken_28 (by decide) (by decide) (by rfl) (by decide) ?_
  refine lv_aload_n hx hb dX2_reckonBroken_258 rfl (lv_at hl 2 rfl) ?_
  refine lv_aload_n hx hb dX2_reckonBroken_259 rfl (lv_at hl 3 rfl) ?_
  refine lv_dload_n hx hb dX2_reckonBroken_260 rfl (lv_at hl 0 rfl) ?_
  refine lv_aload_n hx hb dX2_reckonBroken_261 rfl (lv_at hl 2 rfl) ?_
  refine r_get hC hw rk2 in_X2_reckonBroken_2 4 (wXl 4 (by decide)) wXc4 0 (by decide) lk_X2_reckonBroken_9 (v := .ref (ad 2)) rfl dX2_reckonBroken_262 ?_
  refine lv_aload_n hx hb dX2_reckonBroken_265 rfl (lv_at hl 3 rfl) ?_
  refine r_get hC hw rk5 in_X2_reckonBroken_5 ρ hst.1 hst.2 3 (by decide) lk_X2_reckonBroken_37 (v := .int xc) rfl dX2_reckonBroken_266 ?_
  refine r_kd hw (r_runV (rest := [.double (sD κ 0 (aN xb)), .ref (ad ρ), .ref (ad 4)]) hC hw 2 (c_X3_getDouble l _ _ 2 11 xc (wXl 2 (by decide)) wXc2 (wXl 11 (by decide)) wXc11) rk3 (wXl 2 (by decide)) wXc2 1 gX2_reckonBroken_X3_getDouble rfl rfl rfl (by decide +kernel) ⟨Nat.le_of_ble_eq_true rfl, Nat.le_of_ble_eq_true rfl⟩ rfl hl.1 rfl (Nat.le_of_ble_eq_true rfl) dX2_reckonBroken_269 ⟨Nat.le_of_ble_eq_true rfl, Nat.le_of_ble_eq_true rfl⟩) (fun r_8 u_9 H locs h_7 hw => ?_)
  subst h_7
  refine r_topv (y := .double (sD κ 0 (aN xc))) (congrArg _ (gN_in (by assumption) (by decide))) ?_
  refine r_ki hw (r_runV (rest := []) hC hw 4 (c_X2_restOfDoubles l _ ρ xa xb xc (sD κ 0 (aN xb)) (sD κ 0 (aN xc)) hst hs (hB.2 _ _) (hB.2 _ _)) rk2 (wXl 4 (by decide)) wXc4 3 gX2_reckonBroken_X2_restOfDoubles rfl rfl rfl (by decide +kernel) ⟨Nat.le_of_ble_eq_true rfl, Nat.le_of_ble_eq_true rfl⟩ rfl hl.1 rfl (Nat.le_of_ble_eq_true rfl) dX2_reckonBroken_272 ⟨Nat.le_of_ble_eq_true rfl, Nat.le_of_ble_eq_true rfl⟩) (fun r_11 u_12 H locs h_10 hw => ?_)
  have hd2 : (r_11, u_12) = doR κ hd th 24 xa xb xc := by
    rw [h_10]
    by_cases hz : Op.cmpValue (FP.dcmp (sD κ 0 (aN xc)) FP.dconst0) .l = 0
    · rw [if_pos hz]; exact (doRf (κ := κ) (hd := hd) (th := th) (k := 24) (a := xa) (b := xb) (c := xc) (if_pos hz) (by decide)).symm
    · rw [if_neg hz]; exact (doR0 (κ := κ) (hd := hd) (th := th) (k := 24) (a := xa) (b := xb) (c := xc) (if_neg hz)).symm
  exact r_iret hC hr hlk hw u_12 rfl hd2 (Nat.le_of_ble_eq_true rfl) (Nat.le_of_ble_eq_true rfl) dX2_reckonBroken_275

set_option maxHeartbeats 4000000 in
set_option maxRecDepth 100000 in
theorem c_X2_reckon_23 (l : Launch) {D : va_G} {q : Nat → ClassId} {ad : Nat → Nat} {κ : KS} {τ : TAU} (sz : Nat) (ρ : Nat) (xa xb xc hd th : Int32) (hst : stepAt q ad κ τ ρ 23 xa xb xc) (hs : okStep 23 xa xb xc)(hB : FB κ) : Met l yX2_reckon wsX2_reckon (rmz 3 78) (va_Pc [.ref (ad 4), .ref (ad ρ)] (rPre D q (wX q ad κ τ) sz)) (va_Qi (fun (r : Int32) (u : KS) => (r, u) = doR κ hd th 23 xa xb xc) (fun (u : KS) tt => rPo D (rA (wX q ad κ τ) sz) (wX q ad u τ) tt) (rA (wX q ad κ τ) sz)) 0 0 (rA (wX q ad κ τ) sz) := by
  have hi0 : vp_in xa 4 := hs.1
  have hi1 : vp_in xb 4 := hs.2.1
  have hi2 : vp_in xc 4 := hs.2.2
  refine r_start (cc := cX2_reckon) (maxL := 2) (ret := (some .int)) (by decide) rfl (Nat.le_of_ble_eq_true rfl) ?_
  intro p e s m below meth c ls hC hr hlk hnm hsz hw hl
  have hx := hC.1
  have hb := hC.2.1
  have hl : lv_has ls 2 [(0, .ref (ad 4)), (1, .ref (ad ρ))] := hl
  refine lv_aload_n hx hb dX2_reckon_0 rfl (lv_at hl 1 rfl) ?_
  refine r_get hC hw rk5 in_X2_reckon_5 ρ hst.1 hst.2 0 (by decide) lk_X2_reckon_15 (v := .int 23) rfl dX2_reckon_1 ?_
  refine lv_bipush (v := 14) hx hb dX2_reckon_4 (by decide) ?_
  refine lv_icmp_gt (tgt := 17) hx hb dX2_reckon_6 (by decide) (fun _ => ?_) (fun c_ => absurd (by decide) c_)
  refine lv_aload_n hx hb dX2_reckon_17 rfl (lv_at hl 0 rfl) ?_
  refine lv_aload_n hx hb dX2_reckon_18 rfl (lv_at hl 1 rfl) ?_
  refine r_ki hw (r_runV (rest := []) hC hw 4 (c_X2_reckonBroken_23 l _ ρ xa xb xc hd th hst hs hB) rk2 (wXl 4 (by decide)) wXc4 1 gX2_reckon_X2_reckonBroken rfl rfl rfl (by decide +kernel) ⟨Nat.le_of_ble_eq_true rfl, Nat.le_of_ble_eq_true rfl⟩ rfl hl.1 rfl (Nat.le_of_ble_eq_true rfl) dX2_reckon_19 ⟨Nat.le_of_ble_eq_true rfl, Nat.le_of_ble_eq_true rfl⟩) (fun r_2 u_3 H locs h_1 hw => ?_)
  exact r_iret hC hr hlk hw u_3 rfl h_1 (Nat.le_of_ble_eq_true rfl) (Nat.le_of_ble_eq_true rfl) dX2_reckon_22

set_option maxHeartbeats 4000000 in
set_option maxRecDepth 100000 in
theorem c_X2_reckon_24 (l : Launch) {D : va_G} {q : Nat → ClassId} {ad : Nat → Nat} {κ : KS} {τ : TAU} (sz : Nat) (ρ : Nat) (xa xb xc hd th : Int32) (hst : stepAt q ad κ τ ρ 24 xa xb xc) (hs : okStep 24 xa xb xc)(hB : FB κ) : Met l yX2_reckon wsX2_reckon (rmz 3 78) (va_Pc [.ref (ad 4), .ref (ad ρ)] (rPre D q (wX q ad κ τ) sz)) (va_Qi (fun (r : Int32) (u : KS) => (r, u) = doR κ hd th 24 xa xb xc) (fun (u : KS) tt => rPo D (rA (wX q ad κ τ) sz) (wX q ad u τ) tt) (rA (wX q ad κ τ) sz)) 0 0 (rA (wX q ad κ τ) sz) := by
  have hi0 : vp_in xa 4 := hs.1
  have hi1 : vp_in xb 4 := hs.2.1
  have hi2 : vp_in xc 4 := hs.2.2
  refine r_start (cc := cX2_reckon) (maxL := 2) (ret := (some .int)) (by decide) rfl (Nat.le_of_ble_eq_true rfl) ?_
  intro p e s m below meth c ls hC hr hlk hnm hsz hw hl
  have hx := hC.1
  have hb := hC.2.1
  have hl : lv_has ls 2 [(0, .ref (ad 4)), (1, .ref (ad ρ))] := hl
  refine lv_aload_n hx hb dX2_reckon_0 rfl (lv_at hl 1 rfl) ?_
  refine r_get hC hw rk5 in_X2_reckon_5 ρ hst.1 hst.2 0 (by decide) lk_X2_reckon_15 (v := .int 24) rfl dX2_reckon_1 ?_
  refine lv_bipush (v := 14) hx hb dX2_reckon_4 (by decide) ?_
  refine lv_icmp_gt (tgt := 17) hx hb dX2_reckon_6 (by decide) (fun _ => ?_) (fun c_ => absurd (by decide) c_)
  refine lv_aload_n hx hb dX2_reckon_17 rfl (lv_at hl 0 rfl) ?_
  refine lv_aload_n hx hb dX2_reckon_18 rfl (lv_at hl 1 rfl) ?_
  refine r_ki hw (r_runV (rest := []) hC hw 4 (c_X2_reckonBroken_24 l _ ρ xa xb xc hd th hst hs hB) rk2 (wXl 4 (by decide)) wXc4 1 gX2_reckon_X2_reckonBroken rfl rfl rfl (by decide +kernel) ⟨Nat.le_of_ble_eq_true rfl, Nat.le_of_ble_eq_true rfl⟩ rfl hl.1 rfl (Nat.le_of_ble_eq_true rfl) dX2_reckon_19 ⟨Nat.le_of_ble_eq_true rfl, Nat.le_of_ble_eq_true rfl⟩) (fun r_2 u_3 H locs h_1 hw => ?_)
  exact r_iret hC hr hlk hw u_3 rfl h_1 (Nat.le_of_ble_eq_true rfl) (Nat.le_of_ble_eq_true rfl) dX2_reckon_22

