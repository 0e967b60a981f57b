theorem orAdd (x y : Int64) : x <<< ((32 : Int32).toInt64 &&& 63) + (y &&& 4294967295) = x <<< ((32 : Int32).toInt64 &&& 63) ||| (y &&& 4294967295) := by
  rw [show ((32 : Int32).toInt64 &&& 63) = 32 from by decide]
  apply Int64.toBitVec_inj.mp
  rw [Int64.toBitVec_add, Int64.toBitVec_or]
  apply BitVec.add_eq_or_of_and_eq_zero
  rw [Int64.toBitVec_shiftLeft, Int64.toBitVec_and, show ((32 : Int64).toBitVec.smod 64) = 32#64 from by decide, show (4294967295 : Int64).toBitVec = 4294967295#64 from by decide]
  apply BitVec.eq_of_getLsbD_eq
  intro i hi
  rw [BitVec.getLsbD_and, BitVec.getLsbD_and, BitVec.getLsbD_zero, BitVec.shiftLeft_eq', BitVec.getLsbD_shiftLeft]
  by_cases h : i < 32
  · simp [h]
  · have e : (4294967295#64).getLsbD i = false := by
      have : ∀ j, j < 64 → ¬ j < 32 → (4294967295#64).getLsbD j = false := by decide
      exact this i hi h
    simp [e]
theorem wXc0 {q : Nat → ClassId} {ad : Nat → Nat} {κ : KS} {τ : TAU} : (wX q ad κ τ).2.2 0 = .inr (8, [.ref (ad 1), .ref (ad 2), .ref (ad 3)]) := rfl
theorem wXc1 {q : Nat → ClassId} {ad : Nat → Nat} {κ : KS} {τ : TAU} : (wX q ad κ τ).2.2 1 = .inr (1, [.ref (ad 6), .ref (ad 7), .int (sI κ 0), .int (sI κ 1)]) := rfl
theorem wXc2 {q : Nat → ClassId} {ad : Nat → Nat} {κ : KS} {τ : TAU} : (wX q ad κ τ).2.2 2 = .inr (3, [.ref (ad 8), .ref (ad 9), .ref (ad 10), .ref (ad 11), .ref (ad 12)]) := rfl
theorem wXc3 {q : Nat → ClassId} {ad : Nat → Nat} {κ : KS} {τ : TAU} : (wX q ad κ τ).2.2 3 = .inr (4, fsR ad κ τ) := rfl
theorem wXc4 {q : Nat → ClassId} {ad : Nat → Nat} {κ : KS} {τ : TAU} : (wX q ad κ τ).2.2 4 = .inr (2, [.ref (ad 2)]) := rfl
theorem wXc5 {q : Nat → ClassId} {ad : Nat → Nat} {κ : KS} {τ : TAU} : (wX q ad κ τ).2.2 5 = .inr (7, [.ref (ad 2), .int (sI κ 2)]) := rfl
theorem wXc6 {q : Nat → ClassId} {ad : Nat → Nat} {κ : KS} {τ : TAU} : (wX q ad κ τ).2.2 6 = .inl (q 4, 150, .inr (.inr (.inr (.inr τ.1)))) := rfl
theorem wXc7 {q : Nat → ClassId} {ad : Nat → Nat} {κ : KS} {τ : TAU} : (wX q ad κ τ).2.2 7 = .inl (q 5, 16, .inr (.inr (.inr (.inr τ.2.1)))) := rfl
theorem wXc8 {q : Nat → ClassId} {ad : Nat → Nat} {κ : KS} {τ : TAU} : (wX q ad κ τ).2.2 8 = .inl (q 0, 8, .inl (sA κ 2)) := rfl
theorem wXc9 {q : Nat → ClassId} {ad : Nat → Nat} {κ : KS} {τ : TAU} : (wX q ad κ τ).2.2 9 = .inl (q 1, 4, .inr (.inl (sJ κ 0))) := rfl
theorem wXc10 {q : Nat → ClassId} {ad : Nat → Nat} {κ : KS} {τ : TAU} : (wX q ad κ τ).2.2 10 = .inl (q 2, 4, .inr (.inr (.inl (sF κ)))) := rfl
theorem wXc11 {q : Nat → ClassId} {ad : Nat → Nat} {κ : KS} {τ : TAU} : (wX q ad κ τ).2.2 11 = .inl (q 3, 4, .inr (.inr (.inr (.inl (sD κ 0))))) := rfl
theorem wXc12 {q : Nat → ClassId} {ad : Nat → Nat} {κ : KS} {τ : TAU} : (wX q ad κ τ).2.2 12 = .inl (q 6, 8, .inr (.inr (.inr (.inr (fun j => (rT (sA κ 3 j)).map ad))))) := rfl
theorem wXc13 {q : Nat → ClassId} {ad : Nat → Nat} {κ : KS} {τ : TAU} : (wX q ad κ τ).2.2 13 = .inl (q 0, 12, .inl (sA κ 9)) := rfl
theorem wXc14 {q : Nat → ClassId} {ad : Nat → Nat} {κ : KS} {τ : TAU} : (wX q ad κ τ).2.2 14 = .inl (q 0, 200, .inl (sA κ 10)) := rfl
theorem r_topv {p : Program} {l : Launch} {e : Env} {R : Room} {s : State} {m : MethodId} {args : Array Value} {below : List Frame} {meth : Method} {c : Code} {H : Heap} {locs : List Loc} {cells slots : Nat} {Q : State → Prop} {pc : Nat} {ls : Array Slot} {rest : List Value} {x y : Value} (h : x = y) (k : W p l e R s m args below meth c H locs cells slots Q (F0 m pc ls (y :: rest))) : W p l e R s m args below meth c H locs cells slots Q (F0 m pc ls (x :: rest)) := by rw [h]; exact k
/-- an operation: its failure's number, and the numbers behind it -/
def doR (κ : KS) (hd th : Int32) (k : Nat) (a b c : Int32) : Int32 × KS := (why κ k a b c, if why κ k a b c = 0 then act κ hd th k a b c else κ)
theorem doR0 {κ : KS} {hd th : Int32} {k : Nat} {a b c : Int32} (h : why κ k a b c = 0) : doR κ hd th k a b c = (0, act κ hd th k a b c) := by unfold doR; rw [if_pos h, h]
theorem doRf {κ : KS} {hd th : Int32} {k : Nat} {a b c f : Int32} (h : why κ k a b c = f) (hf : ¬ f = 0) : doR κ hd th k a b c = (f, κ) := by unfold doR; rw [if_neg (by rw [h]; exact hf), h]
/-- the step at the role ρ -/
def stepAt (q : Nat → ClassId) (ad : Nat → Nat) (κ : KS) (τ : TAU) (ρ : Nat) (k a b c : Int32) : Prop := (wX q ad κ τ).2.1 ρ ∧ (wX q ad κ τ).2.2 ρ = .inr (5, [.int k, .int a, .int b, .int c])
set_option maxHeartbeats 4000000 in
set_option maxRecDepth 100000 in
theorem c_X2_divideWords_7 (l : Launch) {D : va_G} {q : Nat → ClassId} {ad : Nat → Nat} {κ : KS} {τ : TAU} (sz : Nat) (ρ : Nat) (xa xb xc x0 y0 : Int32) (hst : stepAt q ad κ τ ρ 7 xa xb xc) (hs : okStep 7 xa xb xc) : Met l yX2_divideWords wsX2_divideWords (rmz 1 22) (va_Pc [.ref (ad 4), .ref (ad ρ), .int x0, .int y0] (rPre D q (wX q ad κ τ) sz)) (va_Qi (fun (r : Int32) (u : KS) => (r, u) = if y0 = 0 then (6, κ) else (0, uA κ 2 (aN xa) (x0 / y0))) (fun (u : KS) tt => rPo D (rA (wX q ad κ τ) sz) (wX q ad u τ) tt) (rA (wX q ad κ τ) sz)) 0 0 (rA (wX q ad κ τ) sz) := by
  have hi0 : vp_in xa 8 := hs.1
  have hi1 : vp_in xb 8 := hs.2.1
  have hi2 : vp_in xc 8 := hs.2.2
  refine r_start (cc := cX2_divideWords) (maxL := 4) (ret := (some .int)) (by decide) rfl (Nat.le_of_ble_eq_true rfl) ?_
  intro p e s m below meth c ls hC hr hlk hnm hsz hw hl
  have hx := hC.1
  have hb := hC.2.1
  have hl : lv_has ls 4 [(0, .ref (ad 4)), (1, .ref (ad ρ)), (2, .int x0), (3, .int y0)] := hl
  refine lv_iload_n hx hb dX2_divideWords_0 rfl (lv_at hl 3 rfl) ?_
  refine lv_if_ne (tgt := 7) hx hb dX2_divideWords_1 (by decide) (fun c_1 => ?_) (fun c_1 => ?_)
  · refine lv_aload_n hx hb dX2_divideWords_7 rfl (lv_at hl 0 rfl) ?_
    refine r_get hC hw rk2 in_X2_divideWords_2 4 (wXl 4 (by decide)) wXc4 0 (by decide) lk_X2_divideWords_9 (v := .ref (ad 2)) rfl dX2_divideWords_8 ?_
    refine lv_aload_n hx hb dX2_divideWords_11 rfl (lv_at hl 1 rfl) ?_
    refine r_get hC hw rk5 in_X2_divideWords_5 ρ hst.1 hst.2 1 (by decide) lk_X2_divideWords_44 (v := .int xa) rfl dX2_divideWords_12 ?_
    refine lv_aload_n hx hb dX2_divideWords_15 rfl (lv_at hl 1 rfl) ?_
    refine r_get hC hw rk5 in_X2_divideWords_5 ρ hst.1 hst.2 0 (by decide) lk_X2_divideWords_15 (v := .int 7) rfl dX2_divideWords_16 ?_
    refine lv_bipush (v := 7) hx hb dX2_divideWords_19 (by decide) ?_
    refine lv_icmp_ne (tgt := 30) hx hb dX2_divideWords_21 (by decide) (fun c_ => absurd (by decide) c_) (fun _ => ?_)
    refine lv_iload_n hx hb dX2_divideWords_24 rfl (lv_at hl 2 rfl) ?_
    refine lv_iload_n hx hb dX2_divideWords_25 rfl (lv_at hl 3 rfl) ?_
    refine lv_idiv hx hb dX2_divideWords_26 c_1 ?_
    refine lv_goto (tgt := 33) hx hb dX2_divideWords_27 (by decide) ?_
    refine r_kv hw (r_runV (rest := []) hC hw 2 (c_X3_setWord l _ _ 2 8 xa (x0 / y0) (by assumption) (wXl 2 (by decide)) wXc2 (wXl 8 (by decide)) wXc8) rk3 (wXl 2 (by decide)) wXc2 2 gX2_divideWords_X3_setWord rfl rfl rfl (by decide +kernel) ⟨Nat.le_of_ble_eq_true rfl, Nat.le_of_ble_eq_true rfl⟩ rfl hl.1 rfl (Nat.le_of_ble_eq_true rfl) dX2_divideWords_33 ⟨Nat.le_of_ble_eq_true rfl, Nat.le_of_ble_eq_true rfl⟩) (fun u_4 H locs h_2 hw => ?_)
    replace hw := xS_words hw
    refine lv_iconst (v := 0) hx hb dX2_divideWords_36 (by decide) ?_
    exact r_iret hC hr hlk hw (uA κ 2 (aN xa) (x0 / y0)) rfl (if_neg c_1).symm (Nat.le_of_ble_eq_true rfl) (Nat.le_of_ble_eq_true rfl) dX2_divideWords_37
  · refine lv_bipush (v := 6) hx hb dX2_divideWords_4 (by decide) ?_
    exact r_iret hC hr hlk hw κ rfl (if_pos c_1).symm (Nat.le_of_ble_eq_true rfl) (Nat.le_of_ble_eq_true rfl) dX2_divideWords_6

set_option maxHeartbeats 4000000 in
set_option maxRecDepth 100000 in
theorem c_X2_divideWords_8 (l : Launch) {D : va_G} {q : Nat → ClassId} {ad : Nat → Nat} {κ : KS} {τ : TAU} (sz : Nat) (ρ : Nat) (xa xb xc x0 y0 : Int32) (hst : stepAt q ad κ τ ρ 8 xa xb xc) (hs : okStep 8 xa xb xc) : Met l yX2_divideWords wsX2_divideWords (rmz 1 22) (va_Pc [.ref (ad 4), .ref (ad ρ), .int x0, .int y0] (rPre D q (wX q ad κ τ) sz)) (va_Qi (fun (r : Int32) (u : KS) => (r, u) = if y0 = 0 then (6, κ) else (0, uA κ 2 (aN xa) (x0 - x0 / y0 * y0))) (fun (u : KS) tt => rPo D (rA (wX q ad κ τ) sz) (wX q ad u τ) tt) (rA (wX q ad κ τ) sz)) 0 0 (rA (wX q ad κ τ) sz) := by
  have hi0 : vp_in xa 8 := hs.1
  have hi1 : vp_in xb 8 := hs.2.1
  have hi2 : vp_in xc 8 := hs.2.2
  refine r_start (cc := cX2_divideWords) (maxL := 4) (ret := (some .int)) (by decide) rfl (Nat.le_of_ble_eq_true rfl) ?_
  intro p e s m below meth c ls hC hr hlk hnm hsz hw hl
  have hx := hC.1
  have hb := hC.2.1
  have hl : lv_has ls 4 [(0, .ref (ad 4)), (1, .ref (ad ρ)), (2, .int x0), (3, .int y0)] := hl
  refine lv_iload_n hx hb dX2_divideWords_0 rfl (lv_at hl 3 rfl) ?_
  refine lv_if_ne (tgt := 7) hx hb dX2_divideWords_1 (by decide) (fun c_1 => ?_) (fun c_1 => ?_)
  · refine lv_aload_n hx hb dX2_divideWords_7 rfl (lv_at hl 0 rfl) ?_
    refine r_get hC hw rk2 in_X2_divideWords_2 4 (wXl 4 (by decide)) wXc4 0 (by decide) lk_X2_divideWords_9 (v := .ref (ad 2)) rfl dX2_divideWords_8 ?_
    refine lv_aload_n hx hb dX2_divideWords_11 rfl (lv_at hl 1 rfl) ?_
    refine r_get hC hw rk5 in_X2_divideWords_5 ρ hst.1 hst.2 1 (by decide) lk_X2_divideWords_44 (v := .int xa) rfl dX2_divideWords_12 ?_
    refine lv_aload_n hx hb dX2_divideWords_15 rfl (lv_at hl 1 rfl) ?_
    refine r_get hC hw rk5 in_X2_divideWords_5 ρ hst.1 hst.2 0 (by decide) lk_X2_divideWords_15 (v := .int 8) rfl dX2_divideWords_16 ?_
    refine lv_bipush (v := 7) hx hb dX2_divideWords_19 (by decide) ?_
    refine lv_icmp_ne (tgt := 30) hx hb dX2_divideWords_21 (by decide) (fun _ => ?_) (fun c_ => absurd c_ (by decide))
    refine lv_iload_n hx hb dX2_divideWords_30 rfl (lv_at hl 2 rfl) ?_
    refine lv_iload_n hx hb dX2_divideWords_31 rfl (lv_at hl 3 rfl) ?_
    refine lv_irem hx hb dX2_divideWords_32 c_1 ?_
    refine r_kv hw (r_runV (rest := []) hC hw 2 (c_X3_setWord l _ _ 2 8 xa (x0 - x0 / y0 * y0) (by assumption) (wXl 2 (by decide)) wXc2 (wXl 8 (by decide)) wXc8) rk3 (wXl 2 (by decide)) wXc2 2 gX2_divideWords_X3_setWord rfl rfl rfl (by decide +kernel) ⟨Nat.le_of_ble_eq_true rfl, Nat.le_of_ble_eq_true rfl⟩ rfl hl.1 rfl (Nat.le_of_ble_eq_true rfl) dX2_divideWords_33 ⟨Nat.le_of_ble_eq_true rfl, Nat.le_of_ble_eq_true rfl⟩) (fun u_4 H locs h_2 hw => ?_)
    replace hw := xS_words hw
    refine lv_iconst (v := 0) hx hb dX2_divideWords_36 (by decide) ?_
    exact r_iret hC hr hlk hw (uA κ 2 (aN xa) (x0 - x0 / y0 * y0)) rfl (if_neg c_1).symm (Nat.le_of_ble_eq_true rfl) (Nat.le_of_ble_eq_true rfl) dX2_divideWords_37
  · refine lv_bipush (v := 6) hx hb dX2_divideWords_4 (by decide) ?_
    exact r_iret hC hr hlk hw κ rfl (if_pos c_1).symm (Nat.le_of_ble_eq_true rfl) (Nat.le_of_ble_eq_true rfl) dX2_divideWords_6

set_option maxHeartbeats 4000000 in
set_option maxRecDepth 100000 in
theorem c_X2_divideLongs_11 (l : Launch) {D : va_G} {q : Nat → ClassId} {ad : Nat → Nat} {κ : KS} {τ : TAU} (sz : Nat) (ρ : Nat) (xa xb xc : Int32) (x0 y0 : Int64) (hst : stepAt q ad κ τ ρ 11 xa xb xc) (hs : okStep 11 xa xb xc) : Met l yX2_divideLongs wsX2_divideLongs (rmz 1 23) (va_Pc [.ref (ad 4), .ref (ad ρ), .long x0, .long y0] (rPre D q (wX q ad κ τ) sz)) (va_Qi (fun (r : Int32) (u : KS) => (r, u) = if lg_cmp y0 0 = 0 then (6, κ) else (0, uJ κ 0 (aN xa) (x0 / y0))) (fun (u : KS) tt => rPo D (rA (wX q ad κ τ) sz) (wX q ad u τ) tt) (rA (wX q ad κ τ) sz)) 0 0 (rA (wX q ad κ τ) sz) := by
  have hi0 : vp_in xa 4 := hs.1
  have hi1 : vp_in xb 4 := hs.2.1
  have hi2 : vp_in xc 4 := hs.2.2
  refine r_start (cc := cX2_divideLongs) (maxL := 6) (ret := (some .int)) (by decide) rfl (Nat.le_of_ble_eq_true rfl) ?_
  intro p e s m below meth c ls hC hr hlk hnm hsz hw hl
  have hx := hC.1
  have hb := hC.2.1
  have hl : lv_has ls 6 [(0, .ref (ad 4)), (1, .ref (ad ρ)), (2, .long x0), (4, .long y0)] := hl
  refine lv_lload hx hb dX2_divideLongs_0 (lv_at hl 3 rfl) ?_
  refine lv_lconst (v := 0) hx hb dX2_divideLongs_2 (by decide) ?_
  refine W.lcmp hx hb dX2_divideLongs_3 ?_
  refine lv_if_ne (tgt := 10) hx hb dX2_divideLongs_4 (by decide) (fun c_1 => ?_) (fun c_1 => ?_)
  · refine lv_aload_n hx hb dX2_divideLongs_10 rfl (lv_at hl 0 rfl) ?_
    refine r_get hC hw rk2 in_X2_divideLongs_2 4 (wXl 4 (by decide)) wXc4 0 (by decide) lk_X2_divideLongs_9 (v := .ref (ad 2)) rfl dX2_divideLongs_11 ?_
    refine lv_aload_n hx hb dX2_divideLongs_14 rfl (lv_at hl 1 rfl) ?_
    refine r_get hC hw rk5 in_X2_divideLongs_5 ρ hst.1 hst.2 1 (by decide) lk_X2_divideLongs_44 (v := .int xa) rfl dX2_divideLongs_15 ?_
    refine lv_aload_n hx hb dX2_divideLongs_18 rfl (lv_at hl 1 rfl) ?_
    refine r_get hC hw rk5 in_X2_divideLongs_5 ρ hst.1 hst.2 0 (by decide) lk_X2_divideLongs_15 (v := .int 11) rfl dX2_divideLongs_19 ?_
    refine lv_bipush (v := 11) hx hb dX2_divideLongs_22 (by decide) ?_
    refine lv_icmp_ne (tgt := 34) hx hb dX2_divideLongs_24 (by decide) (fun c_ => absurd (by decide) c_) (fun _ => ?_)
    refine lv_lload_n hx hb dX2_divideLongs_27 rfl (lv_at hl 2 rfl) ?_
    refine lv_lload hx hb dX2_divideLongs_28 (lv_at hl 3 rfl) ?_
    refine lv_ldiv hx hb dX2_divideLongs_30 (lg_ne c_1) ?_
    refine lv_goto (tgt := 38) hx hb dX2_divideLongs_31 (by decide) ?_
    refine r_kv hw (r_runV (rest := []) hC hw 2 (c_X3_setLong l _ _ 2 9 xa (x0 / y0) (by assumption) (wXl 2 (by decide)) wXc2 (wXl 9 (by decide)) wXc9) rk3 (wXl 2 (by decide)) wXc2 2 gX2_divideLongs_X3_setLong rfl rfl rfl (by decide +kernel) ⟨Nat.le_of_ble_eq_true rfl, Nat.le_of_ble_eq_true rfl⟩ rfl hl.1 rfl (Nat.le_of_ble_eq_true rfl) dX2_divideLongs_38 ⟨Nat.le_of_ble_eq_true rfl, Nat.le_of_ble_eq_true rfl⟩) (fun u_4 H locs h_2 hw => ?_)
    replace hw := xS_longs hw
    refine lv_iconst (v := 0) hx hb dX2_divideLongs_41 (by decide) ?_
    exact r_iret hC hr hlk hw (uJ κ 0 (aN xa) (x0 / y0)) rfl (if_neg c_1).symm (Nat.le_of_ble_eq_true rfl) (Nat.le_of_ble_eq_true rfl) dX2_divideLongs_42
  · refine lv_bipush (v := 6) hx hb dX2_divideLongs_7 (by decide) ?_
    exact r_iret hC hr hlk hw κ rfl (if_pos c_1).symm (Nat.le_of_ble_eq_true rfl) (Nat.le_of_ble_eq_true rfl) dX2_divideLongs_9

set_option maxHeartbeats 4000000 in
set_option maxRecDepth 100000 in
theorem c_X2_divideLongs_12 (l : Launch) {D : va_G} {q : Nat → ClassId} {ad : Nat → Nat} {κ : KS} {τ : TAU} (sz : Nat) (ρ : Nat) (xa xb xc : Int32) (x0 y0 : Int64) (hst : stepAt q ad κ τ ρ 12 xa xb xc) (hs : okStep 12 xa xb xc) : Met l yX2_divideLongs wsX2_divideLongs (rmz 1 23) (va_Pc [.ref (ad 4), .ref (ad ρ), .long x0, .long y0] (rPre D q (wX q ad κ τ) sz)) (va_Qi (fun (r : Int32) (u : KS) => (r, u) = if lg_cmp y0 0 = 0 then (6, κ) else (0, uJ κ 0 (aN xa) (x0 - x0 / y0 * y0))) (fun (u : KS) tt => rPo D (rA (wX q ad κ τ) sz) (wX q ad u τ) tt) (rA (wX q ad κ τ) sz)) 0 0 (rA (wX q ad κ τ) sz) := by
  have hi0 : vp_in xa 4 := hs.1
  have hi1 : vp_in xb 4 := hs.2.1
  have hi2 : vp_in xc 4 := hs.2.2
  refine r_start (cc := cX2_divideLongs) (maxL := 6) (ret := (some .int)) (by decide) rfl (Nat.le_of_ble_eq_true rfl) ?_
  intro p e s m below meth c ls hC hr hlk hnm hsz hw hl
  have hx := hC.1
  have hb := hC.2.1
  have hl : lv_has ls 6 [(0, .ref (ad 4)), (1, .ref (ad ρ)), (2, .long x0), (4, .long y0)] := hl
  refine lv_lload hx hb dX2_divideLongs_0 (lv_at hl 3 rfl) ?_
  refine lv_lconst (v := 0) hx hb dX2_divideLongs_2 (by decide) ?_
  refine W.lcmp hx hb dX2_divideLongs_3 ?_
  refine lv_if_ne (tgt := 10) hx hb dX2_divideLongs_4 (by decide) (fun c_1 => ?_) (fun c_1 => ?_)
  · refine lv_aload_n hx hb dX2_divideLongs_10 rfl (lv_at hl 0 rfl) ?_
    refine r_get hC hw rk2 in_X2_divideLongs_2 4 (wXl 4 (by decide)) wXc4 0 (by decide) lk_X2_divideLongs_9 (v := .ref (ad 2)) rfl dX2_divideLongs_11 ?_
    refine lv_aload_n hx hb dX2_divideLongs_14 rfl (lv_at hl 1 rfl) ?_
    refine r_get hC hw rk5 in_X2_divideLongs_5 ρ hst.1 hst.2 1 (by decide) lk_X2_divideLongs_44 (v := .int xa) rfl dX2_divideLongs_15 ?_
    refine lv_aload_n hx hb dX2_divideLongs_18 rfl (lv_at hl 1 rfl) ?_
    refine r_get hC hw rk5 in_X2_divideLongs_5 ρ hst.1 hst.2 0 (by decide) lk_X2_divideLongs_15 (v := .int 12) rfl dX2_divideLongs_19 ?_
    refine lv_bipush (v := 11) hx hb dX2_divideLongs_22 (by decide) ?_
    refine lv_icmp_ne (tgt := 34) hx hb dX2_divideLongs_24 (by decide) (fun _ => ?_) (fun c_ => absurd c_ (by decide))
    refine lv_lload_n hx hb dX2_divideLongs_34 rfl (lv_at hl 2 rfl) ?_
    refine lv_lload hx hb dX2_divideLongs_35 (lv_at hl 3 rfl) ?_
    refine lv_lrem hx hb dX2_divideLongs_37 (lg_ne c_1) ?_
    refine r_kv hw (r_runV (rest := []) hC hw 2 (c_X3_setLong l _ _ 2 9 xa (x0 - x0 / y0 * y0) (by assumption) (wXl 2 (by decide)) wXc2 (wXl 9 (by decide)) wXc9) rk3 (wXl 2 (by decide)) wXc2 2 gX2_divideLongs_X3_setLong rfl rfl rfl (by decide +kernel) ⟨Nat.le_of_ble_eq_true rfl, Nat.le_of_ble_eq_true rfl⟩ rfl hl.1 rfl (Nat.le_of_ble_eq_true rfl) dX2_divideLongs_38 ⟨Nat.le_of_ble_eq_true rfl, Nat.le_of_ble_eq_true rfl⟩) (fun u_4 H locs h_2 hw => ?_)
    replace hw := xS_longs hw
    refine lv_iconst (v := 0) hx hb dX2_divideLongs_41 (by decide) ?_
    exact r_iret hC hr hlk hw (uJ κ 0 (aN xa) (x0 - x0 / y0 * y0)) rfl (if_neg c_1).symm (Nat.le_of_ble_eq_true rfl) (Nat.le_of_ble_eq_true rfl) dX2_divideLongs_42
  · refine lv_bipush (v := 6) hx hb dX2_divideLongs_7 (by decide) ?_
    exact r_iret hC hr hlk hw κ rfl (if_pos c_1).symm (Nat.le_of_ble_eq_true rfl) (Nat.le_of_ble_eq_true rfl) dX2_divideLongs_9

set_option maxHeartbeats 4000000 in
set_option maxRecDepth 100000 in
theorem c_X2_reckonWhole_1 (l : Launch) {D : va_G} {q : Nat → ClassId} {ad : Nat → Nat} {κ : KS} {τ : TAU} (sz : Nat) (ρ : Nat) (xa xb xc hd th : Int32) (hst : stepAt q ad κ τ ρ 1 xa xb xc) (hs : okStep 1 xa xb xc) : Met l yX2_reckonWhole wsX2_reckonWhole (rmz 2 48) (va_Pc [.ref (ad 4), .ref (ad ρ)] (rPre D q (wX q ad κ τ) sz)) (va_Qi (fun (r : Int32) (u : KS) => (r, u) = doR κ hd th 1 xa xb xc) (fun (u : KS) tt => rPo D (rA (wX q ad κ τ) sz) (wX q ad u τ) tt) (rA (wX q ad κ τ) sz)) 0 0 (rA (wX q ad κ τ) sz) := by
  have hi0 : vp_in xa 8 := hs.1
  refine r_start (cc := cX2_reckonWhole) (maxL := 8) (ret := (some .int)) (by decide) rfl (Nat.le_of_ble_eq_true rfl) ?_
  intro p e s m below meth c ls hC hr hlk hnm hsz hw hl
  have hx := hC.1
  have hb := hC.2.1
  have hl : lv_has ls 8 [(0, .ref (ad 4)), (1, .ref (ad ρ))] := hl
  refine lv_aload_n hx hb dX2_reckonWhole_0 rfl (lv_at hl 0 rfl) ?_
  refine r_get hC hw rk2 in_X2_reckonWhole_2 4 (wXl 4 (by decide)) wXc4 0 (by decide) lk_X2_reckonWhole_9 (v := .ref (ad 2)) rfl dX2_reckonWhole_1 ?_
  refine lv_aload_n hx hb dX2_reckonWhole_4 rfl (lv_at hl 1 rfl) ?_
  refine r_get hC hw rk5 in_X2_reckonWhole_5 ρ hst.1 hst.2 2 (by decide) lk_X2_reckonWhole_28 (v := .int xb) rfl dX2_reckonWhole_5 ?_
  refine r_ki hw (r_runV (rest := []) hC hw 2 (c_X3_getWord l _ _ 2 8 xb (wXl 2 (by decide)) wXc2 (wXl 8 (by decide)) wXc8) rk3 (wXl 2 (by decide)) wXc2 1 gX2_reckonWhole_X3_getWord rfl rfl rfl (by decide +kernel) ⟨Nat.le_of_ble_eq_true rfl, Nat.le_of_ble_eq_true rfl⟩ rfl hl.1 rfl (Nat.le_of_ble_eq_true rfl) dX2_reckonWhole_8 ⟨Nat.le_of_ble_eq_true rfl, Nat.le_of_ble_eq_true rfl⟩) (fun r_2 u_3 H locs h_1 hw => ?_)
  subst h_1
  refine lv_istore_n (lv' := [(2, .int (gN 8 (sA κ 2) 0 xb)), (0, .ref (ad 4)), (1, .ref (ad ρ))]) hx hb dX2_reckonWhole_11 rfl hl (by decide) rfl (fun ls hl => ?_)
  refine lv_aload_n hx hb dX2_reckonWhole_12 rfl (lv_at hl 1 rfl) ?_
  refine r_get hC hw rk2 in_X2_reckonWhole_2 4 (wXl 4 (by decide)) wXc4 0 (by decide) lk_X2_reckonWhole_9 (v := .ref (ad 2)) rfl dX2_reckonWhole_13 ?_
  refine lv_aload_n hx hb dX2_reckonWhole_16 rfl (lv_at hl 2 rfl) ?_
  refine r_get hC hw rk5 in_X2_reckonWhole_5 ρ hst.1 hst.2 3 (by decide) lk_X2_reckonWhole_37 (v := .int xc) rfl dX2_reckonWhole_17 ?_
  refine r_ki hw (r_runV (rest := []) hC hw 2 (c_X3_getWord l _ _ 2 8 xc (wXl 2 (by decide)) wXc2 (wXl 8 (by decide)) wXc8) rk3 (wXl 2 (by decide)) wXc2 1 gX2_reckonWhole_X3_getWord rfl rfl rfl (by decide +kernel) ⟨Nat.le_of_ble_eq_true rfl, Nat.le_of_ble_eq_true rfl⟩ rfl hl.1 rfl (Nat.le_of_ble_eq_true rfl) dX2_reckonWhole_20 ⟨Nat.le_of_ble_eq_true rfl, Nat.le_of_ble_eq_true rfl⟩) (fun r_5 u_6 H locs h_4 hw => ?_)
  subst h_4
  refine lv_istore_n (lv' := [(3, .int (gN 8 (sA κ 2) 0 xc)), (2, .int (gN 8 (sA κ 2) 0 xb)), (0, .ref (ad 4)), (1, .ref (ad ρ))]) hx hb dX2_reckonWhole_23 rfl hl (by decide) rfl (fun ls hl => ?_)
  refine lv_aload_n hx hb dX2_reckonWhole_24 rfl (lv_at hl 2 rfl) ?_
  refine r_get hC hw rk2 in_X2_reckonWhole_2 4 (wXl 4 (by decide)) wXc4 0 (by decide) lk_X2_reckonWhole_9 (v := .ref (ad 2)) rfl dX2_reckonWhole_25 ?_
  refine lv_aload_n hx hb dX2_reckonWhole_28 rfl (lv_at hl 3 rfl) ?_
  refine r_get hC hw rk5 in_X2_reckonWhole_5 ρ hst.1 hst.2 2 (by decide) lk_X2_reckonWhole_28 (v := .int xb) rfl dX2_reckonWhole_29 ?_
  refine r_kl hw (r_runV (rest := []) hC hw 2 (c_X3_getLong l _ _ 2 9 xb (wXl 2 (by decide)) wXc2 (wXl 9 (by decide)) wXc9) rk3 (wXl 2 (by decide)) wXc2 1 gX2_reckonWhole_X3_getLong rfl rfl rfl (by decide +kernel) ⟨Nat.le_of_ble_eq_true rfl, Nat.le_of_ble_eq_true rfl⟩ rfl hl.1 rfl (Nat.le_of_ble_eq_true rfl) dX2_reckonWhole_32 ⟨Nat.le_of_ble_eq_true rfl, Nat.le_of_ble_eq_true rfl⟩) (fun r_8 u_9 H locs h_7 hw => ?_)
  subst h_7
  refine lv_lstore (lv' := [(4, .long (gN 4 (sJ κ 0) 0 xb)), (3, .int (gN 8 (sA κ 2) 0 xc)), (2, .int (gN 8 (sA κ 2) 0 xb)), (0, .ref (ad 4)), (1, .ref (ad ρ))]) hx hb dX2_reckonWhole_35 hl (by decide) rfl (fun ls hl => ?_)
  refine lv_aload_n hx hb dX2_reckonWhole_37 rfl (lv_at hl 3 rfl) ?_
  refine r_get hC hw rk2 in_X2_reckonWhole_2 4 (wXl 4 (by decide)) wXc4 0 (by decide) lk_X2_reckonWhole_9 (v := .ref (ad 2)) rfl dX2_reckonWhole_38 ?_
  refine lv_aload_n hx hb dX2_reckonWhole_41 rfl (lv_at hl 4 rfl) ?_
  refine r_get hC hw rk5 in_X2_reckonWhole_5 ρ hst.1 hst.2 3 (by decide) lk_X2_reckonWhole_37 (v := .int xc) rfl dX2_reckonWhole_42 ?_
  refine r_kl hw (r_runV (rest := []) hC hw 2 (c_X3_getLong l _ _ 2 9 xc (wXl 2 (by decide)) wXc2 (wXl 9 (by decide)) wXc9) rk3 (wXl 2 (by decide)) wXc2 1 gX2_reckonWhole_X3_getLong rfl rfl rfl (by decide +kernel) ⟨Nat.le_of_ble_eq_true rfl, Nat.le_of_ble_eq_true rfl⟩ rfl hl.1 rfl (Nat.le_of_ble_eq_true rfl) dX2_reckonWhole_45 ⟨Nat.le_of_ble_eq_true rfl, Nat.le_of_ble_eq_true rfl⟩) (fun r_11 u_12 H locs h_10 hw => ?_)
  subst h_10
  refine lv_lstore (lv' := [(6, .long (gN 4 (sJ κ 0) 0 xc)), (4, .long (gN 4 (sJ κ 0) 0 xb)), (3, .int (gN 8 (sA κ 2) 0 xc)), (2, .int (gN 8 (sA κ 2) 0 xb)), (0, .ref (ad 4)), (1, .ref (ad ρ))]) hx hb dX2_reckonWhole_48 hl (by decide) rfl (fun ls hl => ?_)
  refine lv_aload_n hx hb dX2_reckonWhole_50 rfl (lv_at hl 5 rfl) ?_
  refine r_get hC hw rk5 in_X2_reckonWhole_5 ρ hst.1 hst.2 0 (by decide) lk_X2_reckonWhole_15 (v := .int 1) rfl dX2_reckonWhole_51 ?_
  refine lv_tableIn (tgt := 120) hx hb dX2_reckonWhole_54 (by decide) (by decide) (by rfl) (by decide) ?_
  refine lv_aload_n hx hb dX2_reckonWhole_120 rfl (lv_at hl 4 rfl) ?_
  refine r_get hC hw rk2 in_X2_reckonWhole_2 4 (wXl 4 (by decide)) wXc4 0 (by decide) lk_X2_reckonWhole_9 (v := .ref (ad 2)) rfl dX2_reckonWhole_121 ?_
  refine lv_aload_n hx hb dX2_reckonWhole_124 rfl (lv_at hl 5 rfl) ?_
  refine r_get hC hw rk5 in_X2_reckonWhole_5 ρ hst.1 hst.2 1 (by decide) lk_X2_reckonWhole_44 (v := .int xa) rfl dX2_reckonWhole_125 ?_
  refine lv_aload_n hx hb dX2_reckonWhole_128 rfl (lv_at hl 5 rfl) ?_
  refine r_get hC hw rk5 in_X2_reckonWhole_5 ρ hst.1 hst.2 2 (by decide) lk_X2_reckonWhole_28 (v := .int xb) rfl dX2_reckonWhole_129 ?_
  refine r_kv hw (r_runV (rest := []) hC hw 2 (c_X3_setWord l _ _ 2 8 xa xb (by assumption) (wXl 2 (by decide)) wXc2 (wXl 8 (by decide)) wXc8) rk3 (wXl 2 (by decide)) wXc2 2 gX2_reckonWhole_X3_setWord rfl rfl rfl (by decide +kernel) ⟨Nat.le_of_ble_eq_true rfl, Nat.le_of_ble_eq_true rfl⟩ rfl hl.1 rfl (Nat.le_of_ble_eq_true rfl) dX2_reckonWhole_132 ⟨Nat.le_of_ble_eq_true rfl, Nat.le_of_ble_eq_true rfl⟩) (fun u_15 H locs h_13 hw => ?_)
  replace hw := xS_words hw
  refine lv_goto (tgt := 322) hx hb dX2_reckonWhole_135 (by decide) ?_
  refine lv_iconst (v := 0) hx hb dX2_reckonWhole_322 (by decide) ?_
  exact r_iret hC hr hlk hw (uA κ 2 (aN xa) xb) rfl (doR0 (κ := κ) (hd := hd) (th := th) (k := 1) (a := xa) (b := xb) (c := xc) rfl).symm (Nat.le_of_ble_eq_true rfl) (Nat.le_of_ble_eq_true rfl) dX2_reckonWhole_323

set_option maxHeartbeats 4000000 in
set_option maxRecDepth 100000 in
theorem c_X2_reckonWhole_2 (l : Launch) {D : va_G} {q : Nat → ClassId} {ad : Nat → Nat} {κ : KS} {τ : TAU} (sz : Nat) (ρ : Nat) (xa xb xc hd th : Int32) (hst : stepAt q ad κ τ ρ 2 xa xb xc) (hs : okStep 2 xa xb xc) : Met l yX2_reckonWhole wsX2_reckonWhole (rmz 2 48) (va_Pc [.ref (ad 4), .ref (ad ρ)] (rPre D q (wX q ad κ τ) sz)) (va_Qi (fun (r : Int32) (u : KS) => (r, u) = doR κ hd th 2 xa xb xc) (fun (u : KS) tt => rPo D (rA (wX q ad κ τ) sz) (wX q ad u τ) tt) (rA (wX q ad κ τ) sz)) 0 0 (rA (wX q ad κ τ) sz) := by
  have hi0 : vp_in xa 4 := hs.1
  refine r_start (cc := cX2_reckonWhole) (maxL := 8) (ret := (some .int)) (by decide) rfl (Nat.le_of_ble_eq_true rfl) ?_
  intro p e s m below meth c ls hC hr hlk hnm hsz hw hl
  have hx := hC.1
  have hb := hC.2.1
  have hl : lv_has ls 8 [(0, .ref (ad 4)), (1, .ref (ad ρ))] := hl
  refine lv_aload_n hx hb dX2_reckonWhole_0 rfl (lv_at hl 0 rfl) ?_
  refine r_get hC hw rk2 in_X2_reckonWhole_2 4 (wXl 4 (by decide)) wXc4 0 (by decide) lk_X2_reckonWhole_9 (v := .ref (ad 2)) rfl dX2_reckonWhole_1 ?_
  refine lv_aload_n hx hb dX2_reckonWhole_4 rfl (lv_at hl 1 rfl) ?_
  refine r_get hC hw rk5 in_X2_reckonWhole_5 ρ hst.1 hst.2 2 (by decide) lk_X2_reckonWhole_28 (v := .int xb) rfl dX2_reckonWhole_5 ?_
  refine r_ki hw (r_runV (rest := []) hC hw 2 (c_X3_getWord l _ _ 2 8 xb (wXl 2 (by decide)) wXc2 (wXl 8 (by decide)) wXc8) rk3 (wXl 2 (by decide)) wXc2 1 gX2_reckonWhole_X3_getWord rfl rfl rfl (by decide +kernel) ⟨Nat.le_of_ble_eq_true rfl, Nat.le_of_ble_eq_true rfl⟩ rfl hl.1 rfl (Nat.le_of_ble_eq_true rfl) dX2_reckonWhole_8 ⟨Nat.le_of_ble_eq_true rfl, Nat.le_of_ble_eq_true rfl⟩) (fun r_2 u_3 H locs h_1 hw => ?_)
  subst h_1
  refine lv_istore_n (lv' := [(2, .int (gN 8 (sA κ 2) 0 xb)), (0, .ref (ad 4)), (1, .ref (ad ρ))]) hx hb dX2_reckonWhole_11 rfl hl (by decide) rfl (fun ls hl => ?_)
  refine lv_aload_n hx hb dX2_reckonWhole_12 rfl (lv_at hl 1 rfl) ?_
  refine r_get hC hw rk2 in_X2_reckonWhole_2 4 (wXl 4 (by decide)) wXc4 0 (by decide) lk_X2_reckonWhole_9 (v := .ref (ad 2)) rfl dX2_reckonWhole_13 ?_
  refine lv_aload_n hx hb dX2_reckonWhole_16 rfl (lv_at hl 2 rfl) ?_
  refine r_get hC hw rk5 in_X2_reckonWhole_5 ρ hst.1 hst.2 3 (by decide) lk_X2_reckonWhole_37 (v := .int xc) rfl dX2_reckonWhole_17 ?_
  refine r_ki hw (r_runV (rest := []) hC hw 2 (c_X3_getWord l _ _ 2 8 xc (wXl 2 (by decide)) wXc2 (wXl 8 (by decide)) wXc8) rk3 (wXl 2 (by decide)) wXc2 1 gX2_reckonWhole_X3_getWord rfl rfl rfl (by decide +kernel) ⟨Nat.le_of_ble_eq_true rfl, Nat.le_of_ble_eq_true rfl⟩ rfl hl.1 rfl (Nat.le_of_ble_eq_true rfl) dX2_reckonWhole_20 ⟨Nat.le_of_ble_eq_true rfl, Nat.le_of_ble_eq_true rfl⟩) (fun r_5 u_6 H locs h_4 hw => ?_)
  subst h_4
  refine lv_istore_n (lv' := [(3, .int (gN 8 (sA κ 2) 0 xc)), (2, .int (gN 8 (sA κ 2) 0 xb)), (0, .ref (ad 4)), (1, .ref (ad ρ))]) hx hb dX2_reckonWhole_23 rfl hl (by decide) rfl (fun ls hl => ?_)
  refine lv_aload_n hx hb dX2_reckonWhole_24 rfl (lv_at hl 2 rfl) ?_
  refine r_get hC hw rk2 in_X2_reckonWhole_2 4 (wXl 4 (by decide)) wXc4 0 (by decide) lk_X2_reckonWhole_9 (v := .ref (ad 2)) rfl dX2_reckonWhole_25 ?_
  refine lv_aload_n hx hb dX2_reckonWhole_28 rfl (lv_at hl 3 rfl) ?_
  refine r_get hC hw rk5 in_X2_reckonWhole_5 ρ hst.1 hst.2 2 (by decide) lk_X2_reckonWhole_28 (v := .int xb) rfl dX2_reckonWhole_29 ?_
  refine r_kl hw (r_runV (rest := []) hC hw 2 (c_X3_getLong l _ _ 2 9 xb (wXl 2 (by decide)) wXc2 (wXl 9 (by decide)) wXc9) rk3 (wXl 2 (by decide)) wXc2 1 gX2_reckonWhole_X3_getLong rfl rfl rfl (by decide +kernel) ⟨Nat.le_of_ble_eq_true rfl, Nat.le_of_ble_eq_true rfl⟩ rfl hl.1 rfl (Nat.le_of_ble_eq_true rfl) dX2_reckonWhole_32 ⟨Nat.le_of_ble_eq_true rfl, Nat.le_of_ble_eq_true rfl⟩) (fun r_8 u_9 H locs h_7 hw => ?_)
  subst h_7
  refine lv_lstore (lv' := [(4, .long (gN 4 (sJ κ 0) 0 xb)), (3, .int (gN 8 (sA κ 2) 0 xc)), (2, .int (gN 8 (sA κ 2) 0 xb)), (0, .ref (ad 4)), (1, .ref (ad ρ))]) hx hb dX2_reckonWhole_35 hl (by decide) rfl (fun ls hl => ?_)
  refine lv_aload_n hx hb dX2_reckonWhole_37 rfl (lv_at hl 3 rfl) ?_
  refine r_get hC hw rk2 in_X2_reckonWhole_2 4 (wXl 4 (by decide)) wXc4 0 (by decide) lk_X2_reckonWhole_9 (v := .ref (ad 2)) rfl dX2_reckonWhole_38 ?_
  refine lv_aload_n hx hb dX2_reckonWhole_41 rfl (lv_at hl 4 rfl) ?_
  refine r_get hC hw rk5 in_X2_reckonWhole_5 ρ hst.1 hst.2 3 (by decide) lk_X2_reckonWhole_37 (v := .int xc) rfl dX2_reckonWhole_42 ?_
  refine r_kl hw (r_runV (rest := []) hC hw 2 (c_X3_getLong l _ _ 2 9 xc (wXl 2 (by decide)) wXc2 (wXl 9 (by decide)) wXc9) rk3 (wXl 2 (by decide)) wXc2 1 gX2_reckonWhole_X3_getLong rfl rfl rfl (by decide +kernel) ⟨Nat.le_of_ble_eq_true rfl, Nat.le_of_ble_eq_true rfl⟩ rfl hl.1 rfl (Nat.le_of_ble_eq_true rfl) dX2_reckonWhole_45 ⟨Nat.le_of_ble_eq_true rfl, Nat.le_of_ble_eq_true rfl⟩) (fun r_11 u_12 H locs h_10 hw => ?_)
  subst h_10
  refine lv_lstore (lv' := [(6, .long (gN 4 (sJ κ 0) 0 xc)), (4, .long (gN 4 (sJ κ 0) 0 xb)), (3, .int (gN 8 (sA κ 2) 0 xc)), (2, .int (gN 8 (sA κ 2) 0 xb)), (0, .ref (ad 4)), (1, .ref (ad ρ))]) hx hb dX2_reckonWhole_48 hl (by decide) rfl (fun ls hl => ?_)
  refine lv_aload_n hx hb dX2_reckonWhole_50 rfl (lv_at hl 5 rfl) ?_
  refine r_get hC hw rk5 in_X2_reckonWhole_5 ρ hst.1 hst.2 0 (by decide) lk_X2_reckonWhole_15 (v := .int 2) rfl dX2_reckonWhole_51 ?_
  refine lv_tableIn (tgt := 138) hx hb dX2_reckonWhole_54 (by decide) (by decide) (by rfl) (by decide) ?_
  refine lv_aload_n hx hb dX2_reckonWhole_138 rfl (lv_at hl 4 rfl) ?_
  refine r_get hC hw rk2 in_X2_reckonWhole_2 4 (wXl 4 (by decide)) wXc4 0 (by decide) lk_X2_reckonWhole_9 (v := .ref (ad 2)) rfl dX2_reckonWhole_139 ?_
  refine lv_aload_n hx hb dX2_reckonWhole_142 rfl (lv_at hl 5 rfl) ?_
  refine r_get hC hw rk5 in_X2_reckonWhole_5 ρ hst.1 hst.2 1 (by decide) lk_X2_reckonWhole_44 (v := .int xa) rfl dX2_reckonWhole_143 ?_
  refine lv_aload_n hx hb dX2_reckonWhole_146 rfl (lv_at hl 5 rfl) ?_
  refine r_get hC hw rk5 in_X2_reckonWhole_5 ρ hst.1 hst.2 2 (by decide) lk_X2_reckonWhole_28 (v := .int xb) rfl dX2_reckonWhole_147 ?_
  refine lv_i2l (v := xb.toInt64) hx hb dX2_reckonWhole_150 rfl ?_
  refine lv_bipush (v := 32) hx hb dX2_reckonWhole_151 (by decide) ?_
  refine lv_lshl (v := xb.toInt64 <<< ((32 : Int32).toInt64 &&& 63)) hx hb dX2_reckonWhole_153 rfl ?_
  refine lv_aload_n hx hb dX2_reckonWhole_154 rfl (lv_at hl 5 rfl) ?_
  refine r_get hC hw rk5 in_X2_reckonWhole_5 ρ hst.1 hst.2 3 (by decide) lk_X2_reckonWhole_37 (v := .int xc) rfl dX2_reckonWhole_155 ?_
  refine lv_i2l (v := xc.toInt64) hx hb dX2_reckonWhole_158 rfl ?_
  refine lv_ldc2 hx hb hC.2.2.2.1 (hC.2.2.2.2 _ lk_X2_reckonWhole_51) dX2_reckonWhole_159 ?_
  refine lv_land hx hb dX2_reckonWhole_162 ?_
  refine lv_ladd hx hb dX2_reckonWhole_163 ?_
  refine r_kv hw (r_runV (rest := []) hC hw 2 (c_X3_setLong l _ _ 2 9 xa ((xb.toInt64 <<< ((32 : Int32).toInt64 &&& 63)) + (xc.toInt64 &&& (4294967295))) (by assumption) (wXl 2 (by decide)) wXc2 (wXl 9 (by decide)) wXc9) rk3 (wXl 2 (by decide)) wXc2 2 gX2_reckonWhole_X3_setLong rfl rfl rfl (by decide +kernel) ⟨Nat.le_of_ble_eq_true rfl, Nat.le_of_ble_eq_true rfl⟩ rfl hl.1 rfl (Nat.le_of_ble_eq_true rfl) dX2_reckonWhole_164 ⟨Nat.le_of_ble_eq_true rfl, Nat.le_of_ble_eq_true rfl⟩) (fun u_15 H locs h_13 hw => ?_)
  replace hw := xS_longs hw
  refine lv_goto (tgt := 322) hx hb dX2_reckonWhole_167 (by decide) ?_
  refine lv_iconst (v := 0) hx hb dX2_reckonWhole_322 (by decide) ?_
  exact r_iret hC hr hlk hw (uJ κ 0 (aN xa) ((xb.toInt64 <<< ((32 : Int32).toInt64 &&& 63)) + (xc.toInt64 &&& (4294967295)))) rfl (by rw [orAdd]; exact (doR0 (κ := κ) (hd := hd) (th := th) (k := 2) (a := xa) (b := xb) (c := xc) rfl).symm) (Nat.le_of_ble_eq_true rfl) (Nat.le_of_ble_eq_true rfl) dX2_reckonWhole_323

set_option maxHeartbeats 4000000 in
set_option maxRecDepth 100000 in
theorem c_X2_reckonWhole_3 (l : Launch) {D : va_G} {q : Nat → ClassId} {ad : Nat → Nat} {κ : KS} {τ : TAU} (sz : Nat) (ρ : Nat) (xa xb xc hd th : Int32) (hst : stepAt q ad κ τ ρ 3 xa xb xc) (hs : okStep 3 xa xb xc) : Met l yX2_reckonWhole wsX2_reckonWhole (rmz 2 48) (va_Pc [.ref (ad 4), .ref (ad ρ)] (rPre D q (wX q ad κ τ) sz)) (va_Qi (fun (r : Int32) (u : KS) => (r, u) = doR κ hd th 3 xa xb xc) (fun (u : KS) tt => rPo D (rA (wX q ad κ τ) sz) (wX q ad u τ) tt) (rA (wX q ad κ τ) sz)) 0 0 (rA (wX q ad κ τ) sz) := by
  have hi0 : vp_in xa 8 := hs.1
  have hi1 : vp_in xb 8 := hs.2.1
  refine r_start (cc := cX2_reckonWhole) (maxL := 8) (ret := (some .int)) (by decide) rfl (Nat.le_of_ble_eq_true rfl) ?_
  intro p e s m below meth c ls hC hr hlk hnm hsz hw hl
  have hx := hC.1
  have hb := hC.2.1
  have hl : lv_has ls 8 [(0, .ref (ad 4)), (1, .ref (ad ρ))] := hl
  refine lv_aload_n hx hb dX2_reckonWhole_0 rfl (lv_at hl 0 rfl) ?_
  refine r_get hC hw rk2 in_X2_reckonWhole_2 4 (wXl 4 (by decide)) wXc4 0 (by decide) lk_X2_reckonWhole_9 (v := .ref (ad 2)) rfl dX2_reckonWhole_1 ?_
  refine lv_aload_n hx hb dX2_reckonWhole_4 rfl (lv_at hl 1 rfl) ?_
  refine r_get hC hw rk5 in_X2_reckonWhole_5 ρ hst.1 hst.2 2 (by decide) lk_X2_reckonWhole_28 (v := .int xb) rfl dX2_reckonWhole_5 ?_
  refine r_ki hw (r_runV (rest := []) hC hw 2 (c_X3_getWord l _ _ 2 8 xb (wXl 2 (by decide)) wXc2 (wXl 8 (by decide)) wXc8) rk3 (wXl 2 (by decide)) wXc2 1 gX2_reckonWhole_X3_getWord rfl rfl rfl (by decide +kernel) ⟨Nat.le_of_ble_eq_true rfl, Nat.le_of_ble_eq_true rfl⟩ rfl hl.1 rfl (Nat.le_of_ble_eq_true rfl) dX2_reckonWhole_8 ⟨Nat.le_of_ble_eq_true rfl, Nat.le_of_ble_eq_true rfl⟩) (fun r_2 u_3 H locs h_1 hw => ?_)
  subst h_1
  refine r_topv (y := .int (sA κ 2 (aN xb))) (congrArg _ (gN_in (by assumption) (by decide))) ?_
  refine lv_istore_n (lv' := [(2, .int (sA κ 2 (aN xb))), (0, .ref (ad 4)), (1, .ref (ad ρ))]) hx hb dX2_reckonWhole_11 rfl hl (by decide) rfl (fun ls hl => ?_)
  refine lv_aload_n hx hb dX2_reckonWhole_12 rfl (lv_at hl 1 rfl) ?_
  refine r_get hC hw rk2 in_X2_reckonWhole_2 4 (wXl 4 (by decide)) wXc4 0 (by decide) lk_X2_reckonWhole_9 (v := .ref (ad 2)) rfl dX2_reckonWhole_13 ?_
  refine lv_aload_n hx hb dX2_reckonWhole_16 rfl (lv_at hl 2 rfl) ?_
  refine r_get hC hw rk5 in_X2_reckonWhole_5 ρ hst.1 hst.2 3 (by decide) lk_X2_reckonWhole_37 (v := .int xc) rfl dX2_reckonWhole_17 ?_
  refine r_ki hw (r_runV (rest := []) hC hw 2 (c_X3_getWord l _ _ 2 8 xc (wXl 2 (by decide)) wXc2 (wXl 8 (by decide)) wXc8) rk3 (wXl 2 (by decide)) wXc2 1 gX2_reckonWhole_X3_getWord rfl rfl rfl (by decide +kernel) ⟨Nat.le_of_ble_eq_true rfl, Nat.le_of_ble_eq_true rfl⟩ rfl hl.1 rfl (Nat.le_of_ble_eq_true rfl) dX2_reckonWhole_20 ⟨Nat.le_of_ble_eq_true rfl, Nat.le_of_ble_eq_true rfl⟩) (fun r_5 u_6 H locs h_4 hw => ?_)
  subst h_4
  refine lv_istore_n (lv' := [(3, .int (gN 8 (sA κ 2) 0 xc)), (2, .int (sA κ 2 (aN xb))), (0, .ref (ad 4)), (1, .ref (ad ρ))]) hx hb dX2_reckonWhole_23 rfl hl (by decide) rfl (fun ls hl => ?_)
  refine lv_aload_n hx hb dX2_reckonWhole_24 rfl (lv_at hl 2 rfl) ?_
  refine r_get hC hw rk2 in_X2_reckonWhole_2 4 (wXl 4 (by decide)) wXc4 0 (by decide) lk_X2_reckonWhole_9 (v := .ref (ad 2)) rfl dX2_reckonWhole_25 ?_
  refine lv_aload_n hx hb dX2_reckonWhole_28 rfl (lv_at hl 3 rfl) ?_
  refine r_get hC hw rk5 in_X2_reckonWhole_5 ρ hst.1 hst.2 2 (by decide) lk_X2_reckonWhole_28 (v := .int xb) rfl dX2_reckonWhole_29 ?_
  refine r_kl hw (r_runV (rest := []) hC hw 2 (c_X3_getLong l _ _ 2 9 xb (wXl 2 (by decide)) wXc2 (wXl 9 (by decide)) wXc9) rk3 (wXl 2 (by decide)) wXc2 1 gX2_reckonWhole_X3_getLong rfl rfl rfl (by decide +kernel) ⟨Nat.le_of_ble_eq_true rfl, Nat.le_of_ble_eq_true rfl⟩ rfl hl.1 rfl (Nat.le_of_ble_eq_true rfl) dX2_reckonWhole_32 ⟨Nat.le_of_ble_eq_true rfl, Nat.le_of_ble_eq_true rfl⟩) (fun r_8 u_9 H locs h_7 hw => ?_)
  subst h_7
  refine lv_lstore (lv' := [(4, .long (gN 4 (sJ κ 0) 0 xb)), (3, .int (gN 8 (sA κ 2) 0 xc)), (2, .int (sA κ 2 (aN xb))), (0, .ref (ad 4)), (1, .ref (ad ρ))]) hx hb dX2_reckonWhole_35 hl (by decide) rfl (fun ls hl => ?_)
  refine lv_aload_n hx hb dX2_reckonWhole_37 rfl (lv_at hl 3 rfl) ?_
  refine r_get hC hw rk2 in_X2_reckonWhole_2 4 (wXl 4 (by decide)) wXc4 0 (by decide) lk_X2_reckonWhole_9 (v := .ref (ad 2)) rfl dX2_reckonWhole_38 ?_
  refine lv_aload_n hx hb dX2_reckonWhole_41 rfl (lv_at hl 4 rfl) ?_
  refine r_get hC hw rk5 in_X2_reckonWhole_5 ρ hst.1 hst.2 3 (by decide) lk_X2_reckonWhole_37 (v := .int xc) rfl dX2_reckonWhole_42 ?_
  refine r_kl hw (r_runV (rest := []) hC hw 2 (c_X3_getLong l _ _ 2 9 xc (wXl 2 (by decide)) wXc2 (wXl 9 (by decide)) wXc9) rk3 (wXl 2 (by decide)) wXc2 1 gX2_reckonWhole_X3_getLong rfl rfl rfl (by decide +kernel) ⟨Nat.le_of_ble_eq_true rfl, Nat.le_of_ble_eq_true rfl⟩ rfl hl.1 rfl (Nat.le_of_ble_eq_true rfl) dX2_reckonWhole_45 ⟨Nat.le_of_ble_eq_true rfl, Nat.le_of_ble_eq_true rfl⟩) (fun r_11 u_12 H locs h_10 hw => ?_)
  subst h_10
  refine lv_lstore (lv' := [(6, .long (gN 4 (sJ κ 0) 0 xc)), (4, .long (gN 4 (sJ κ 0) 0 xb)), (3, .int (gN 8 (sA κ 2) 0 xc)), (2, .int (sA κ 2 (aN xb))), (0, .ref (ad 4)), (1, .ref (ad ρ))]) hx hb dX2_reckonWhole_48 hl (by decide) rfl (fun ls hl => ?_)
  refine lv_aload_n hx hb dX2_reckonWhole_50 rfl (lv_at hl 5 rfl) ?_
  refine r_get hC hw rk5 in_X2_reckonWhole_5 ρ hst.1 hst.2 0 (by decide) lk_X2_reckonWhole_15 (v := .int 3) rfl dX2_reckonWhole_51 ?_
  refine lv_tableIn (tgt := 170) hx hb dX2_reckonWhole_54 (by decide) (by decide) (by rfl) (by decide) ?_
  refine lv_aload_n hx hb dX2_reckonWhole_170 rfl (lv_at hl 4 rfl) ?_
  refine r_get hC hw rk2 in_X2_reckonWhole_2 4 (wXl 4 (by decide)) wXc4 0 (by decide) lk_X2_reckonWhole_9 (v := .ref (ad 2)) rfl dX2_reckonWhole_171 ?_
  refine lv_aload_n hx hb dX2_reckonWhole_174 rfl (lv_at hl 5 rfl) ?_
  refine r_get hC hw rk5 in_X2_reckonWhole_5 ρ hst.1 hst.2 1 (by decide) lk_X2_reckonWhole_44 (v := .int xa) rfl dX2_reckonWhole_175 ?_
  refine lv_iload_n hx hb dX2_reckonWhole_178 rfl (lv_at hl 3 rfl) ?_
  refine r_kv hw (r_runV (rest := []) hC hw 2 (c_X3_setWord l _ _ 2 8 xa (sA κ 2 (aN xb)) (by assumption) (wXl 2 (by decide)) wXc2 (wXl 8 (by decide)) wXc8) rk3 (wXl 2 (by decide)) wXc2 2 gX2_reckonWhole_X3_setWord rfl rfl rfl (by decide +kernel) ⟨Nat.le_of_ble_eq_true rfl, Nat.le_of_ble_eq_true rfl⟩ rfl hl.1 rfl (Nat.le_of_ble_eq_true rfl) dX2_reckonWhole_179 ⟨Nat.le_of_ble_eq_true rfl, Nat.le_of_ble_eq_true rfl⟩) (fun u_15 H locs h_13 hw => ?_)
  replace hw := xS_words hw
  refine lv_goto (tgt := 322) hx hb dX2_reckonWhole_182 (by decide) ?_
  refine lv_iconst (v := 0) hx hb dX2_reckonWhole_322 (by decide) ?_
  exact r_iret hC hr hlk hw (uA κ 2 (aN xa) (sA κ 2 (aN xb))) rfl (doR0 (κ := κ) (hd := hd) (th := th) (k := 3) (a := xa) (b := xb) (c := xc) rfl).symm (Nat.le_of_ble_eq_true rfl) (Nat.le_of_ble_eq_true rfl) dX2_reckonWhole_323

set_option maxHeartbeats 4000000 in
set_option maxRecDepth 100000 in
theorem c_X2_reckonWhole_4 (l : Launch) {D : va_G} {q : Nat → ClassId} {ad : Nat → Nat} {κ : KS} {τ : TAU} (sz : Nat) (ρ : Nat) (xa xb xc hd th : Int32) (hst : stepAt q ad κ τ ρ 4 xa xb xc) (hs : okStep 4 xa xb xc) : Met l yX2_reckonWhole wsX2_reckonWhole (rmz 2 48) (va_Pc [.ref (ad 4), .ref (ad ρ)] (rPre D q (wX q ad κ τ) sz)) (va_Qi (fun (r : Int32) (u : KS) => (r, u) = doR κ hd th 4 xa xb xc) (fun (u : KS) tt => rPo D (rA (wX q ad κ τ) sz) (wX q ad u τ) tt) (rA (wX q ad κ τ) sz)) 0 0 (rA (wX q ad κ τ) sz) := by
  have hi0 : vp_in xa 8 := hs.1
  have hi1 : vp_in xb 8 := hs.2.1
  have hi2 : vp_in xc 8 := hs.2.2
  refine r_start (cc := cX2_reckonWhole) (maxL := 8) (ret := (some .int)) (by decide) rfl (Nat.le_of_ble_eq_true rfl) ?_
  intro p e s m below meth c ls hC hr hlk hnm hsz hw hl
  have hx := hC.1
  have hb := hC.2.1
  have hl : lv_has ls 8 [(0, .ref (ad 4)), (1, .ref (ad ρ))] := hl
  refine lv_aload_n hx hb dX2_reckonWhole_0 rfl (lv_at hl 0 rfl) ?_
  refine r_get hC hw rk2 in_X2_reckonWhole_2 4 (wXl 4 (by decide)) wXc4 0 (by decide) lk_X2_reckonWhole_9 (v := .ref (ad 2)) rfl dX2_reckonWhole_1 ?_
  refine lv_aload_n hx hb dX2_reckonWhole_4 rfl (lv_at hl 1 rfl) ?_
  refine r_get hC hw rk5 in_X2_reckonWhole_5 ρ hst.1 hst.2 2 (by decide) lk_X2_reckonWhole_28 (v := .int xb) rfl dX2_reckonWhole_5 ?_
  refine r_ki hw (r_runV (rest := []) hC hw 2 (c_X3_getWord l _ _ 2 8 xb (wXl 2 (by decide)) wXc2 (wXl 8 (by decide)) wXc8) rk3 (wXl 2 (by decide)) wXc2 1 gX2_reckonWhole_X3_getWord rfl rfl rfl (by decide +kernel) ⟨Nat.le_of_ble_eq_true rfl, Nat.le_of_ble_eq_true rfl⟩ rfl hl.1 rfl (Nat.le_of_ble_eq_true rfl) dX2_reckonWhole_8 ⟨Nat.le_of_ble_eq_true rfl, Nat.le_of_ble_eq_true rfl⟩) (fun r_2 u_3 H locs h_1 hw => ?_)
  subst h_1
  refine r_topv (y := .int (sA κ 2 (aN xb))) (congrArg _ (gN_in (by assumption) (by decide))) ?_
  refine lv_istore_n (lv' := [(2, .int (sA κ 2 (aN xb))), (0, .ref (ad 4)), (1, .ref (ad ρ))]) hx hb dX2_reckonWhole_11 rfl hl (by decide) rfl (fun ls hl => ?_)
  refine lv_aload_n hx hb dX2_reckonWhole_12 rfl (lv_at hl 1 rfl) ?_
  refine r_get hC hw rk2 in_X2_reckonWhole_2 4 (wXl 4 (by decide)) wXc4 0 (by decide) lk_X2_reckonWhole_9 (v := .ref (ad 2)) rfl dX2_reckonWhole_13 ?_
  refine lv_aload_n hx hb dX2_reckonWhole_16 rfl (lv_at hl 2 rfl) ?_
  refine r_get hC hw rk5 in_X2_reckonWhole_5 ρ hst.1 hst.2 3 (by decide) lk_X2_reckonWhole_37 (v := .int xc) rfl dX2_reckonWhole_17 ?_
  refine r_ki hw (r_runV (rest := []) hC hw 2 (c_X3_getWord l _ _ 2 8 xc (wXl 2 (by decide)) wXc2 (wXl 8 (by decide)) wXc8) rk3 (wXl 2 (by decide)) wXc2 1 gX2_reckonWhole_X3_getWord rfl rfl rfl (by decide +kernel) ⟨Nat.le_of_ble_eq_true rfl, Nat.le_of_ble_eq_true rfl⟩ rfl hl.1 rfl (Nat.le_of_ble_eq_true rfl) dX2_reckonWhole_20 ⟨Nat.le_of_ble_eq_true rfl, Nat.le_of_ble_eq_true rfl⟩) (fun r_5 u_6 H locs h_4 hw => ?_)
  subst h_4
  refine r_topv (y := .int (sA κ 2 (aN xc))) (congrArg _ (gN_in (by assumption) (by decide))) ?_
  refine lv_istore_n (lv' := [(3, .int (sA κ 2 (aN xc))), (2, .int (sA κ 2 (aN xb))), (0, .ref (ad 4)), (1, .ref (ad ρ))]) hx hb dX2_reckonWhole_23 rfl hl (by decide) rfl (fun ls hl => ?_)
  refine lv_aload_n hx hb dX2_reckonWhole_24 rfl (lv_at hl 2 rfl) ?_
  refine r_get hC hw rk2 in_X2_reckonWhole_2 4 (wXl 4 (by decide)) wXc4 0 (by decide) lk_X2_reckonWhole_9 (v := .ref (ad 2)) rfl dX2_reckonWhole_25 ?_
  refine lv_aload_n hx hb dX2_reckonWhole_28 rfl (lv_at hl 3 rfl) ?_
  refine r_get hC hw rk5 in_X2_reckonWhole_5 ρ hst.1 hst.2 2 (by decide) lk_X2_reckonWhole_28 (v := .int xb) rfl dX2_reckonWhole_29 ?_
  refine r_kl hw (r_runV (rest := []) hC hw 2 (c_X3_getLong l _ _ 2 9 xb (wXl 2 (by decide)) wXc2 (wXl 9 (by decide)) wXc9) rk3 (wXl 2 (by decide)) wXc2 1 gX2_reckonWhole_X3_getLong rfl rfl rfl (by decide +kernel) ⟨Nat.le_of_ble_eq_true rfl, Nat.le_of_ble_eq_true rfl⟩ rfl hl.1 rfl (Nat.le_of_ble_eq_true rfl) dX2_reckonWhole_32 ⟨Nat.le_of_ble_eq_true rfl, Nat.le_of_ble_eq_true rfl⟩) (fun r_8 u_9 H locs h_7 hw => ?_)
  subst h_7
  refine lv_lstore (lv' := [(4, .long (gN 4 (sJ κ 0) 0 xb)), (3, .int (sA κ 2 (aN xc))), (2, .int (sA κ 2 (aN xb))), (0, .ref (ad 4)), (1, .ref (ad ρ))]) hx hb dX2_reckonWhole_35 hl (by decide) rfl (fun ls hl => ?_)
  refine lv_aload_n hx hb dX2_reckonWhole_37 rfl (lv_at hl 3 rfl) ?_
  refine r_get hC hw rk2 in_X2_reckonWhole_2 4 (wXl 4 (by decide)) wXc4 0 (by decide) lk_X2_reckonWhole_9 (v := .ref (ad 2)) rfl dX2_reckonWhole_38 ?_
  refine lv_aload_n hx hb dX2_reckonWhole_41 rfl (lv_at hl 4 rfl) ?_
  refine r_get hC hw rk5 in_X2_reckonWhole_5 ρ hst.1 hst.2 3 (by decide) lk_X2_reckonWhole_37 (v := .int xc) rfl dX2_reckonWhole_42 ?_
  refine r_kl hw (r_runV (rest := []) hC hw 2 (c_X3_getLong l _ _ 2 9 xc (wXl 2 (by decide)) wXc2 (wXl 9 (by decide)) wXc9) rk3 (wXl 2 (by decide)) wXc2 1 gX2_reckonWhole_X3_getLong rfl rfl rfl (by decide +kernel) ⟨Nat.le_of_ble_eq_true rfl, Nat.le_of_ble_eq_true rfl⟩ rfl hl.1 rfl (Nat.le_of_ble_eq_true rfl) dX2_reckonWhole_45 ⟨Nat.le_of_ble_eq_true rfl, Nat.le_of_ble_eq_true rfl⟩) (fun r_11 u_12 H locs h_10 hw => ?_)
  subst h_10
  refine lv_lstore (lv' := [(6, .long (gN 4 (sJ κ 0) 0 xc)), (4, .long (gN 4 (sJ κ 0) 0 xb)), (3, .int (sA κ 2 (aN xc))), (2, .int (sA κ 2 (aN xb))), (0, .ref (ad 4)), (1, .ref (ad ρ))]) hx hb dX2_reckonWhole_48 hl (by decide) rfl (fun ls hl => ?_)
  refine lv_aload_n hx hb dX2_reckonWhole_50 rfl (lv_at hl 5 rfl) ?_
  refine r_get hC hw rk5 in_X2_reckonWhole_5 ρ hst.1 hst.2 0 (by decide) lk_X2_reckonWhole_15 (v := .int 4) rfl dX2_reckonWhole_51 ?_
  refine lv_tableIn (tgt := 185) hx hb dX2_reckonWhole_54 (by decide) (by decide) (by rfl) (by decide) ?_
  refine lv_aload_n hx hb dX2_reckonWhole_185 rfl (lv_at hl 4 rfl) ?_
  refine r_get hC hw rk2 in_X2_reckonWhole_2 4 (wXl 4 (by decide)) wXc4 0 (by decide) lk_X2_reckonWhole_9 (v := .ref (ad 2)) rfl dX2_reckonWhole_186 ?_
  refine lv_aload_n hx hb dX2_reckonWhole_189 rfl (lv_at hl 5 rfl) ?_
  refine r_get hC hw rk5 in_X2_reckonWhole_5 ρ hst.1 hst.2 1 (by decide) lk_X2_reckonWhole_44 (v := .int xa) rfl dX2_reckonWhole_190 ?_
  refine lv_iload_n hx hb dX2_reckonWhole_193 rfl (lv_at hl 3 rfl) ?_
  refine lv_iload_n hx hb dX2_reckonWhole_194 rfl (lv_at hl 2 rfl) ?_
  refine lv_iadd hx hb dX2_reckonWhole_195 ?_
  refine r_kv hw (r_runV (rest := []) hC hw 2 (c_X3_setWord l _ _ 2 8 xa ((sA κ 2 (aN xb)) + (sA κ 2 (aN xc))) (by assumption) (wXl 2 (by decide)) wXc2 (wXl 8 (by decide)) wXc8) rk3 (wXl 2 (by decide)) wXc2 2 gX2_reckonWhole_X3_setWord rfl rfl rfl (by decide +kernel) ⟨Nat.le_of_ble_eq_true rfl, Nat.le_of_ble_eq_true rfl⟩ rfl hl.1 rfl (Nat.le_of_ble_eq_true rfl) dX2_reckonWhole_196 ⟨Nat.le_of_ble_eq_true rfl, Nat.le_of_ble_eq_true rfl⟩) (fun u_15 H locs h_13 hw => ?_)
  replace hw := xS_words hw
  refine lv_goto (tgt := 322) hx hb dX2_reckonWhole_199 (by decide) ?_
  refine lv_iconst (v := 0) hx hb dX2_reckonWhole_322 (by decide) ?_
  exact r_iret hC hr hlk hw (uA κ 2 (aN xa) ((sA κ 2 (aN xb)) + (sA κ 2 (aN xc)))) rfl (doR0 (κ := κ) (hd := hd) (th := th) (k := 4) (a := xa) (b := xb) (c := xc) rfl).symm (Nat.le_of_ble_eq_true rfl) (Nat.le_of_ble_eq_true rfl) dX2_reckonWhole_323

set_option maxHeartbeats 4000000 in
set_option maxRecDepth 100000 in
theorem c_X2_reckonWhole_5 (l : Launch) {D : va_G} {q : Nat → ClassId} {ad : Nat → Nat} {κ : KS} {τ : TAU} (sz : Nat) (ρ : Nat) (xa xb xc hd th : Int32) (hst : stepAt q ad κ τ ρ 5 xa xb xc) (hs : okStep 5 xa xb xc) : Met l yX2_reckonWhole wsX2_reckonWhole (rmz 2 48) (va_Pc [.ref (ad 4), .ref (ad ρ)] (rPre D q (wX q ad κ τ) sz)) (va_Qi (fun (r : Int32) (u : KS) => (r, u) = doR κ hd th 5 xa xb xc) (fun (u : KS) tt => rPo D (rA (wX q ad κ τ) sz) (wX q ad u τ) tt) (rA (wX q ad κ τ) sz)) 0 0 (rA (wX q ad κ τ) sz) := by
  have hi0 : vp_in xa 8 := hs.1
  have hi1 : vp_in xb 8 := hs.2.1
  have hi2 : vp_in xc 8 := hs.2.2
  refine r_start (cc := cX2_reckonWhole) (maxL := 8) (ret := (some .int)) (by decide) rfl (Nat.le_of_ble_eq_true rfl) ?_
  intro p e s m below meth c ls hC hr hlk hnm hsz hw hl
  have hx := hC.1
  have hb := hC.2.1
  have hl : lv_has ls 8 [(0, .ref (ad 4)), (1, .ref (ad ρ))] := hl
  refine lv_aload_n hx hb dX2_reckonWhole_0 rfl (lv_at hl 0 rfl) ?_
  refine r_get hC hw rk2 in_X2_reckonWhole_2 4 (wXl 4 (by decide)) wXc4 0 (by decide) lk_X2_reckonWhole_9 (v := .ref (ad 2)) rfl dX2_reckonWhole_1 ?_
  refine lv_aload_n hx hb dX2_reckonWhole_4 rfl (lv_at hl 1 rfl) ?_
  refine r_get hC hw rk5 in_X2_reckonWhole_5 ρ hst.1 hst.2 2 (by decide) lk_X2_reckonWhole_28 (v := .int xb) rfl dX2_reckonWhole_5 ?_
  refine r_ki hw (r_runV (rest := []) hC hw 2 (c_X3_getWord l _ _ 2 8 xb (wXl 2 (by decide)) wXc2 (wXl 8 (by decide)) wXc8) rk3 (wXl 2 (by decide)) wXc2 1 gX2_reckonWhole_X3_getWord rfl rfl rfl (by decide +kernel) ⟨Nat.le_of_ble_eq_true rfl, Nat.le_of_ble_eq_true rfl⟩ rfl hl.1 rfl (Nat.le_of_ble_eq_true rfl) dX2_reckonWhole_8 ⟨Nat.le_of_ble_eq_true rfl, Nat.le_of_ble_eq_true rfl⟩) (fun r_2 u_3 H locs h_1 hw => ?_)
  subst h_1
  refine r_topv (y := .int (sA κ 2 (aN xb))) (congrArg _ (gN_in (by assumption) (by decide))) ?_
  refine lv_istore_n (lv' := [(2, .int (sA κ 2 (aN xb))), (0, .ref (ad 4)), (1, .ref (ad ρ))]) hx hb dX2_reckonWhole_11 rfl hl (by decide) rfl (fun ls hl => ?_)
  refine lv_aload_n hx hb dX2_reckonWhole_12 rfl (lv_at hl 1 rfl) ?_
  refine r_get hC hw rk2 in_X2_reckonWhole_2 4 (wXl 4 (by decide)) wXc4 0 (by decide) lk_X2_reckonWhole_9 (v := .ref (ad 2)) rfl dX2_reckonWhole_13 ?_
  refine lv_aload_n hx hb dX2_reckonWhole_16 rfl (lv_at hl 2 rfl) ?_
  refine r_get hC hw rk5 in_X2_reckonWhole_5 ρ hst.1 hst.2 3 (by decide) lk_X2_reckonWhole_37 (v := .int xc) rfl dX2_reckonWhole_17 ?_
  refine r_ki hw (r_runV (rest := []) hC hw 2 (c_X3_getWord l _ _ 2 8 xc (wXl 2 (by decide)) wXc2 (wXl 8 (by decide)) wXc8) rk3 (wXl 2 (by decide)) wXc2 1 gX2_reckonWhole_X3_getWord rfl rfl rfl (by decide +kernel) ⟨Nat.le_of_ble_eq_true rfl, Nat.le_of_ble_eq_true rfl⟩ rfl hl.1 rfl (Nat.le_of_ble_eq_true rfl) dX2_reckonWhole_20 ⟨Nat.le_of_ble_eq_true rfl, Nat.le_of_ble_eq_true rfl⟩) (fun r_5 u_6 H locs h_4 hw => ?_)
  subst h_4
  refine r_topv (y := .int (sA κ 2 (aN xc))) (congrArg _ (gN_in (by assumption) (by decide))) ?_
  refine lv_istore_n (lv' := [(3, .int (sA κ 2 (aN xc))), (2, .int (sA κ 2 (aN xb))), (0, .ref (ad 4)), (1, .ref (ad ρ))]) hx hb dX2_reckonWhole_23 rfl hl (by decide) rfl (fun ls hl => ?_)
  refine lv_aload_n hx hb dX2_reckonWhole_24 rfl (lv_at hl 2 rfl) ?_
  refine r_get hC hw rk2 in_X2_reckonWhole_2 4 (wXl 4 (by decide)) wXc4 0 (by decide) lk_X2_reckonWhole_9 (v := .ref (ad 2)) rfl dX2_reckonWhole_25 ?_
  refine lv_aload_n hx hb dX2_reckonWhole_28 rfl (lv_at hl 3 rfl) ?_
  refine r_get hC hw rk5 in_X2_reckonWhole_5 ρ hst.1 hst.2 2 (by decide) lk_X2_reckonWhole_28 (v := .int xb) rfl dX2_reckonWhole_29 ?_
  refine r_kl hw (r_runV (rest := []) hC hw 2 (c_X3_getLong l _ _ 2 9 xb (wXl 2 (by decide)) wXc2 (wXl 9 (by decide)) wXc9) rk3 (wXl 2 (by decide)) wXc2 1 gX2_reckonWhole_X3_getLong rfl rfl rfl (by decide +kernel) ⟨Nat.le_of_ble_eq_true rfl, Nat.le_of_ble_eq_true rfl⟩ rfl hl.1 rfl (Nat.le_of_ble_eq_true rfl) dX2_reckonWhole_32 ⟨Nat.le_of_ble_eq_true rfl, Nat.le_of_ble_eq_true rfl⟩) (fun r_8 u_9 H locs h_7 hw => ?_)
  subst h_7
  refine lv_lstore (lv' := [(4, .long (gN 4 (sJ κ 0) 0 xb)), (3, .int (sA κ 2 (aN xc))), (2, .int (sA κ 2 (aN xb))), (0, .ref (ad 4)), (1, .ref (ad ρ))]) hx hb dX2_reckonWhole_35 hl (by decide) rfl (fun ls hl => ?_)
  refine lv_aload_n hx hb dX2_reckonWhole_37 rfl (lv_at hl 3 rfl) ?_
  refine r_get hC hw rk2 in_X2_reckonWhole_2 4 (wXl 4 (by decide)) wXc4 0 (by decide) lk_X2_reckonWhole_9 (v := .ref (ad 2)) rfl dX2_reckonWhole_38 ?_
  refine lv_aload_n hx hb dX2_reckonWhole_41 rfl (lv_at hl 4 rfl) ?_
  refine r_get hC hw rk5 in_X2_reckonWhole_5 ρ hst.1 hst.2 3 (by decide) lk_X2_reckonWhole_37 (v := .int xc) rfl dX2_reckonWhole_42 ?_
  refine r_kl hw (r_runV (rest := []) hC hw 2 (c_X3_getLong l _ _ 2 9 xc (wXl 2 (by decide)) wXc2 (wXl 9 (by decide)) wXc9) rk3 (wXl 2 (by decide)) wXc2 1 gX2_reckonWhole_X3_getLong rfl rfl rfl (by decide +kernel) ⟨Nat.le_of_ble_eq_true rfl, Nat.le_of_ble_eq_true rfl⟩ rfl hl.1 rfl (Nat.le_of_ble_eq_true rfl) dX2_reckonWhole_45 ⟨Nat.le_of_ble_eq_true rfl, Nat.le_of_ble_eq_true rfl⟩) (fun r_11 u_12 H locs h_10 hw => ?_)
  subst h_10
  refine lv_lstore (lv' := [(6, .long (gN 4 (sJ κ 0) 0 xc)), (4, .long (gN 4 (sJ κ 0) 0 xb)), (3, .int (sA κ 2 (aN xc))), (2, .int (sA κ 2 (aN xb))), (0, .ref (ad 4)), (1, .ref (ad ρ))]) hx hb dX2_reckonWhole_48 hl (by decide) rfl (fun ls hl => ?_)
  refine lv_aload_n hx hb dX2_reckonWhole_50 rfl (lv_at hl 5 rfl) ?_
  refine r_get hC hw rk5 in_X2_reckonWhole_5 ρ hst.1 hst.2 0 (by decide) lk_X2_reckonWhole_15 (v := .int 5) rfl dX2_reckonWhole_51 ?_
  refine lv_tableIn (tgt := 202) hx hb dX2_reckonWhole_54 (by decide) (by decide) (by rfl) (by decide) ?_
  refine lv_aload_n hx hb dX2_reckonWhole_202 rfl (lv_at hl 4 rfl) ?_
  refine r_get hC hw rk2 in_X2_reckonWhole_2 4 (wXl 4 (by decide)) wXc4 0 (by decide) lk_X2_reckonWhole_9 (v := .ref (ad 2)) rfl dX2_reckonWhole_203 ?_
  refine lv_aload_n hx hb dX2_reckonWhole_206 rfl (lv_at hl 5 rfl) ?_
  refine r_get hC hw rk5 in_X2_reckonWhole_5 ρ hst.1 hst.2 1 (by decide) lk_X2_reckonWhole_44 (v := .int xa) rfl dX2_reckonWhole_207 ?_
  refine lv_iload_n hx hb dX2_reckonWhole_210 rfl (lv_at hl 3 rfl) ?_
  refine lv_iload_n hx hb dX2_reckonWhole_211 rfl (lv_at hl 2 rfl) ?_
  refine lv_isub hx hb dX2_reckonWhole_212 ?_
  refine r_kv hw (r_runV (rest := []) hC hw 2 (c_X3_setWord l _ _ 2 8 xa ((sA κ 2 (aN xb)) - (sA κ 2 (aN xc))) (by assumption) (wXl 2 (by decide)) wXc2 (wXl 8 (by decide)) wXc8) rk3 (wXl 2 (by decide)) wXc2 2 gX2_reckonWhole_X3_setWord rfl rfl rfl (by decide +kernel) ⟨Nat.le_of_ble_eq_true rfl, Nat.le_of_ble_eq_true rfl⟩ rfl hl.1 rfl (Nat.le_of_ble_eq_true rfl) dX2_reckonWhole_213 ⟨Nat.le_of_ble_eq_true rfl, Nat.le_of_ble_eq_true rfl⟩) (fun u_15 H locs h_13 hw => ?_)
  replace hw := xS_words hw
  refine lv_goto (tgt := 322) hx hb dX2_reckonWhole_216 (by decide) ?_
  refine lv_iconst (v := 0) hx hb dX2_reckonWhole_322 (by decide) ?_
  exact r_iret hC hr hlk hw (uA κ 2 (aN xa) ((sA κ 2 (aN xb)) - (sA κ 2 (aN xc)))) rfl (doR0 (κ := κ) (hd := hd) (th := th) (k := 5) (a := xa) (b := xb) (c := xc) rfl).symm (Nat.le_of_ble_eq_true rfl) (Nat.le_of_ble_eq_true rfl) dX2_reckonWhole_323

set_option maxHeartbeats 4000000 in
set_option maxRecDepth 100000 in
theorem c_X2_reckonWhole_6 (l : Launch) {D : va_G} {q : Nat → ClassId} {ad : Nat → Nat} {κ : KS} {τ : TAU} (sz : Nat) (ρ : Nat) (xa xb xc hd th : Int32) (hst : stepAt q ad κ τ ρ 6 xa xb xc) (hs : okStep 6 xa xb xc) : Met l yX2_reckonWhole wsX2_reckonWhole (rmz 2 48) (va_Pc [.ref (ad 4), .ref (ad ρ)] (rPre D q (wX q ad κ τ) sz)) (va_Qi (fun (r : Int32) (u : KS) => (r, u) = doR κ hd th 6 xa xb xc) (fun (u : KS) tt => rPo D (rA (wX q ad κ τ) sz) (wX q ad u τ) tt) (rA (wX q ad κ τ) sz)) 0 0 (rA (wX q ad κ τ) sz) := by
  have hi0 : vp_in xa 8 := hs.1
  have hi1 : vp_in xb 8 := hs.2.1
  have hi2 : vp_in xc 8 := hs.2.2
  refine r_start (cc := cX2_reckonWhole) (maxL := 8) (ret := (some .int)) (by decide) rfl (Nat.le_of_ble_eq_true rfl) ?_
  intro p e s m below meth c ls hC hr hlk hnm hsz hw hl
  have hx := hC.1
  have hb := hC.2.1
  have hl : lv_has ls 8 [(0, .ref (ad 4)), (1, .ref (ad ρ))] := hl
  refine lv_aload_n hx hb dX2_reckonWhole_0 rfl (lv_at hl 0 rfl) ?_
  refine r_get hC hw rk2 in_X2_reckonWhole_2 4 (wXl 4 (by decide)) wXc4 0 (by decide) lk_X2_reckonWhole_9 (v := .ref (ad 2)) rfl dX2_reckonWhole_1 ?_
  refine lv_aload_n hx hb dX2_reckonWhole_4 rfl (lv_at hl 1 rfl) ?_
  refine r_get hC hw rk5 in_X2_reckonWhole_5 ρ hst.1 hst.2 2 (by decide) lk_X2_reckonWhole_28 (v := .int xb) rfl dX2_reckonWhole_5 ?_
  refine r_ki hw (r_runV (rest := []) hC hw 2 (c_X3_getWord l _ _ 2 8 xb (wXl 2 (by decide)) wXc2 (wXl 8 (by decide)) wXc8) rk3 (wXl 2 (by decide)) wXc2 1 gX2_reckonWhole_X3_getWord rfl rfl rfl (by decide +kernel) ⟨Nat.le_of_ble_eq_true rfl, Nat.le_of_ble_eq_true rfl⟩ rfl hl.1 rfl (Nat.le_of_ble_eq_true rfl) dX2_reckonWhole_8 ⟨Nat.le_of_ble_eq_true rfl, Nat.le_of_ble_eq_true rfl⟩) (fun r_2 u_3 H locs h_1 hw => ?_)
  subst h_1
  refine r_topv (y := .int (sA κ 2 (aN xb))) (congrArg _ (gN_in (by assumption) (by decide))) ?_
  refine lv_istore_n (lv' := [(2, .int (sA κ 2 (aN xb))), (0, .ref (ad 4)), (1, .ref (ad ρ))]) hx hb dX2_reckonWhole_11 rfl hl (by decide) rfl (fun ls hl => ?_)
  refine lv_aload_n hx hb dX2_reckonWhole_12 rfl (lv_at hl 1 rfl) ?_
  refine r_get hC hw rk2 in_X2_reckonWhole_2 4 (wXl 4 (by decide)) wXc4 0 (by decide) lk_X2_reckonWhole_9 (v := .ref (ad 2)) rfl dX2_reckonWhole_13 ?_
  refine lv_aload_n hx hb dX2_reckonWhole_16 rfl (lv_at hl 2 rfl) ?_
  refine r_get hC hw rk5 in_X2_reckonWhole_5 ρ hst.1 hst.2 3 (by decide) lk_X2_reckonWhole_37 (v := .int xc) rfl dX2_reckonWhole_17 ?_
  refine r_ki hw (r_runV (rest := []) hC hw 2 (c_X3_getWord l _ _ 2 8 xc (wXl 2 (by decide)) wXc2 (wXl 8 (by decide)) wXc8) rk3 (wXl 2 (by decide)) wXc2 1 gX2_reckonWhole_X3_getWord rfl rfl rfl (by decide +kernel) ⟨Nat.le_of_ble_eq_true rfl, Nat.le_of_ble_eq_true rfl⟩ rfl hl.1 rfl (Nat.le_of_ble_eq_true rfl) dX2_reckonWhole_20 ⟨Nat.le_of_ble_eq_true rfl, Nat.le_of_ble_eq_true rfl⟩) (fun r_5 u_6 H locs h_4 hw => ?_)
  subst h_4
  refine r_topv (y := .int (sA κ 2 (aN xc))) (congrArg _ (gN_in (by assumption) (by decide))) ?_
  refine lv_istore_n (lv' := [(3, .int (sA κ 2 (aN xc))), (2, .int (sA κ 2 (aN xb))), (0, .ref (ad 4)), (1, .ref (ad ρ))]) hx hb dX2_reckonWhole_23 rfl hl (by decide) rfl (fun ls hl => ?_)
  refine lv_aload_n hx hb dX2_reckonWhole_24 rfl (lv_at hl 2 rfl) ?_
  refine r_get hC hw rk2 in_X2_reckonWhole_2 4 (wXl 4 (by decide)) wXc4 0 (by decide) lk_X2_reckonWhole_9 (v := .ref (ad 2)) rfl dX2_reckonWhole_25 ?_
  refine lv_aload_n hx hb dX2_reckonWhole_28 rfl (lv_at hl 3 rfl) ?_
  refine r_get hC hw rk5 in_X2_reckonWhole_5 ρ hst.1 hst.2 2 (by decide) lk_X2_reckonWhole_28 (v := .int xb) rfl dX2_reckonWhole_29 ?_
  refine r_kl hw (r_runV (rest := []) hC hw 2 (c_X3_getLong l _ _ 2 9 xb (wXl 2 (by decide)) wXc2 (wXl 9 (by decide)) wXc9) rk3 (wXl 2 (by decide)) wXc2 1 gX2_reckonWhole_X3_getLong rfl rfl rfl (by decide +kernel) ⟨Nat.le_of_ble_eq_true rfl, Nat.le_of_ble_eq_true rfl⟩ rfl hl.1 rfl (Nat.le_of_ble_eq_true rfl) dX2_reckonWhole_32 ⟨Nat.le_of_ble_eq_true rfl, Nat.le_of_ble_eq_true rfl⟩) (fun r_8 u_9 H locs h_7 hw => ?_)
  subst h_7
  refine lv_lstore (lv' := [(4, .long (gN 4 (sJ κ 0) 0 xb)), (3, .int (sA κ 2 (aN xc))), (2, .int (sA κ 2 (aN xb))), (0, .ref (ad 4)), (1, .ref (ad ρ))]) hx hb dX2_reckonWhole_35 hl (by decide) rfl (fun ls hl => ?_)
  refine lv_aload_n hx hb dX2_reckonWhole_37 rfl (lv_at hl 3 rfl) ?_
  refine r_get hC hw rk2 in_X2_reckonWhole_2 4 (wXl 4 (by decide)) wXc4 0 (by decide) lk_X2_reckonWhole_9 (v := .ref (ad 2)) rfl dX2_reckonWhole_38 ?_
  refine lv_aload_n hx hb dX2_reckonWhole_41 rfl (lv_at hl 4 rfl) ?_
  refine r_get hC hw rk5 in_X2_reckonWhole_5 ρ hst.1 hst.2 3 (by decide) lk_X2_reckonWhole_37 (v := .int xc) rfl dX2_reckonWhole_42 ?_
  refine r_kl hw (r_runV (rest := []) hC hw 2 (c_X3_getLong l _ _ 2 9 xc (wXl 2 (by decide)) wXc2 (wXl 9 (by decide)) wXc9) rk3 (wXl 2 (by decide)) wXc2 1 gX2_reckonWhole_X3_getLong rfl rfl rfl (by decide +kernel) ⟨Nat.le_of_ble_eq_true rfl, Nat.le_of_ble_eq_true rfl⟩ rfl hl.1 rfl (Nat.le_of_ble_eq_true rfl) dX2_reckonWhole_45 ⟨Nat.le_of_ble_eq_true rfl, Nat.le_of_ble_eq_true rfl⟩) (fun r_11 u_12 H locs h_10 hw => ?_)
  subst h_10
  refine lv_lstore (lv' := [(6, .long (gN 4 (sJ κ 0) 0 xc)), (4, .long (gN 4 (sJ κ 0) 0 xb)), (3, .int (sA κ 2 (aN xc))), (2, .int (sA κ 2 (aN xb))), (0, .ref (ad 4)), (1, .ref (ad ρ))]) hx hb dX2_reckonWhole_48 hl (by decide) rfl (fun ls hl => ?_)
  refine lv_aload_n hx hb dX2_reckonWhole_50 rfl (lv_at hl 5 rfl) ?_
  refine r_get hC hw rk5 in_X2_reckonWhole_5 ρ hst.1 hst.2 0 (by decide) lk_X2_reckonWhole_15 (v := .int 6) rfl dX2_reckonWhole_51 ?_
  refine lv_tableIn (tgt := 219) hx hb dX2_reckonWhole_54 (by decide) (by decide) (by rfl) (by decide) ?_
  refine lv_aload_n hx hb dX2_reckonWhole_219 rfl (lv_at hl 4 rfl) ?_
  refine r_get hC hw rk2 in_X2_reckonWhole_2 4 (wXl 4 (by decide)) wXc4 0 (by decide) lk_X2_reckonWhole_9 (v := .ref (ad 2)) rfl dX2_reckonWhole_220 ?_
  refine lv_aload_n hx hb dX2_reckonWhole_223 rfl (lv_at hl 5 rfl) ?_
  refine r_get hC hw rk5 in_X2_reckonWhole_5 ρ hst.1 hst.2 1 (by decide) lk_X2_reckonWhole_44 (v := .int xa) rfl dX2_reckonWhole_224 ?_
  refine lv_iload_n hx hb dX2_reckonWhole_227 rfl (lv_at hl 3 rfl) ?_
  refine lv_iload_n hx hb dX2_reckonWhole_228 rfl (lv_at hl 2 rfl) ?_
  refine lv_imul hx hb dX2_reckonWhole_229 ?_
  refine r_kv hw (r_runV (rest := []) hC hw 2 (c_X3_setWord l _ _ 2 8 xa ((sA κ 2 (aN xb)) * (sA κ 2 (aN xc))) (by assumption) (wXl 2 (by decide)) wXc2 (wXl 8 (by decide)) wXc8) rk3 (wXl 2 (by decide)) wXc2 2 gX2_reckonWhole_X3_setWord rfl rfl rfl (by decide +kernel) ⟨Nat.le_of_ble_eq_true rfl, Nat.le_of_ble_eq_true rfl⟩ rfl hl.1 rfl (Nat.le_of_ble_eq_true rfl) dX2_reckonWhole_230 ⟨Nat.le_of_ble_eq_true rfl, Nat.le_of_ble_eq_true rfl⟩) (fun u_15 H locs h_13 hw => ?_)
  replace hw := xS_words hw
  refine lv_goto (tgt := 322) hx hb dX2_reckonWhole_233 (by decide) ?_
  refine lv_iconst (v := 0) hx hb dX2_reckonWhole_322 (by decide) ?_
  exact r_iret hC hr hlk hw (uA κ 2 (aN xa) ((sA κ 2 (aN xb)) * (sA κ 2 (aN xc)))) rfl (doR0 (κ := κ) (hd := hd) (th := th) (k := 6) (a := xa) (b := xb) (c := xc) rfl).symm (Nat.le_of_ble_eq_true rfl) (Nat.le_of_ble_eq_true rfl) dX2_reckonWhole_323

set_option maxHeartbeats 4000000 in
set_option maxRecDepth 100000 in
theorem c_X2_reckonWhole_7 (l : Launch) {D : va_G} {q : Nat → ClassId} {ad : Nat → Nat} {κ : KS} {τ : TAU} (sz : Nat) (ρ : Nat) (xa xb xc hd th : Int32) (hst : stepAt q ad κ τ ρ 7 xa xb xc) (hs : okStep 7 xa xb xc) : Met l yX2_reckonWhole wsX2_reckonWhole (rmz 2 48) (va_Pc [.ref (ad 4), .ref (ad ρ)] (rPre D q (wX q ad κ τ) sz)) (va_Qi (fun (r : Int32) (u : KS) => (r, u) = doR κ hd th 7 xa xb xc) (fun (u : KS) tt => rPo D (rA (wX q ad κ τ) sz) (wX q ad u τ) tt) (rA (wX q ad κ τ) sz)) 0 0 (rA (wX q ad κ τ) sz) := by
  have hi0 : vp_in xa 8 := hs.1
  have hi1 : vp_in xb 8 := hs.2.1
  have hi2 : vp_in xc 8 := hs.2.2
  refine r_start (cc := cX2_reckonWhole) (maxL := 8) (ret := (some .int)) (by decide) rfl (Nat.le_of_ble_eq_true rfl) ?_
  intro p e s m below meth c ls hC hr hlk hnm hsz hw hl
  have hx := hC.1
  have hb := hC.2.1
  have hl : lv_has ls 8 [(0, .ref (ad 4)), (1, .ref (ad ρ))] := hl
  refine lv_aload_n hx hb dX2_reckonWhole_0 rfl (lv_at hl 0 rfl) ?_
  refine r_get hC hw rk2 in_X2_reckonWhole_2 4 (wXl 4 (by decide)) wXc4 0 (by decide) lk_X2_reckonWhole_9 (v := .ref (ad 2)) rfl dX2_reckonWhole_1 ?_
  refine lv_aload_n hx hb dX2_reckonWhole_4 rfl (lv_at hl 1 rfl) ?_
  refine r_get hC hw rk5 in_X2_reckonWhole_5 ρ hst.1 hst.2 2 (by decide) lk_X2_reckonWhole_28 (v := .int xb) rfl dX2_reckonWhole_5 ?_
  refine r_ki hw (r_runV (rest := []) hC hw 2 (c_X3_getWord l _ _ 2 8 xb (wXl 2 (by decide)) wXc2 (wXl 8 (by decide)) wXc8) rk3 (wXl 2 (by decide)) wXc2 1 gX2_reckonWhole_X3_getWord rfl rfl rfl (by decide +kernel) ⟨Nat.le_of_ble_eq_true rfl, Nat.le_of_ble_eq_true rfl⟩ rfl hl.1 rfl (Nat.le_of_ble_eq_true rfl) dX2_reckonWhole_8 ⟨Nat.le_of_ble_eq_true rfl, Nat.le_of_ble_eq_true rfl⟩) (fun r_2 u_3 H locs h_1 hw => ?_)
  subst h_1
  refine r_topv (y := .int (sA κ 2 (aN xb))) (congrArg _ (gN_in (by assumption) (by decide))) ?_
  refine lv_istore_n (lv' := [(2, .int (sA κ 2 (aN xb))), (0, .ref (ad 4)), (1, .ref (ad ρ))]) hx hb dX2_reckonWhole_11 rfl hl (by decide) rfl (fun ls hl => ?_)
  refine lv_aload_n hx hb dX2_reckonWhole_12 rfl (lv_at hl 1 rfl) ?_
  refine r_get hC hw rk2 in_X2_reckonWhole_2 4 (wXl 4 (by decide)) wXc4 0 (by decide) lk_X2_reckonWhole_9 (v := .ref (ad 2)) rfl dX2_reckonWhole_13 ?_
  refine lv_aload_n hx hb dX2_reckonWhole_16 rfl (lv_at hl 2 rfl) ?_
  refine r_get hC hw rk5 in_X2_reckonWhole_5 ρ hst.1 hst.2 3 (by decide) lk_X2_reckonWhole_37 (v := .int xc) rfl dX2_reckonWhole_17 ?_
  refine r_ki hw (r_runV (rest := []) hC hw 2 (c_X3_getWord l _ _ 2 8 xc (wXl 2 (by decide)) wXc2 (wXl 8 (by decide)) wXc8) rk3 (wXl 2 (by decide)) wXc2 1 gX2_reckonWhole_X3_getWord rfl rfl rfl (by decide +kernel) ⟨Nat.le_of_ble_eq_true rfl, Nat.le_of_ble_eq_true rfl⟩ rfl hl.1 rfl (Nat.le_of_ble_eq_true rfl) dX2_reckonWhole_20 ⟨Nat.le_of_ble_eq_true rfl, Nat.le_of_ble_eq_true rfl⟩) (fun r_5 u_6 H locs h_4 hw => ?_)
  subst h_4
  refine r_topv (y := .int (sA κ 2 (aN xc))) (congrArg _ (gN_in (by assumption) (by decide))) ?_
  refine lv_istore_n (lv' := [(3, .int (sA κ 2 (aN xc))), (2, .int (sA κ 2 (aN xb))), (0, .ref (ad 4)), (1, .ref (ad ρ))]) hx hb dX2_reckonWhole_23 rfl hl (by decide) rfl (fun ls hl => ?_)
  refine lv_aload_n hx hb dX2_reckonWhole_24 rfl (lv_at hl 2 rfl) ?_
  refine r_get hC hw rk2 in_X2_reckonWhole_2 4 (wXl 4 (by decide)) wXc4 0 (by decide) lk_X2_reckonWhole_9 (v := .ref (ad 2)) rfl dX2_reckonWhole_25 ?_
  refine lv_aload_n hx hb dX2_reckonWhole_28 rfl (lv_at hl 3 rfl) ?_
  refine r_get hC hw rk5 in_X2_reckonWhole_5 ρ hst.1 hst.2 2 (by decide) lk_X2_reckonWhole_28 (v := .int xb) rfl dX2_reckonWhole_29 ?_
  refine r_kl hw (r_runV (rest := []) hC hw 2 (c_X3_getLong l _ _ 2 9 xb (wXl 2 (by decide)) wXc2 (wXl 9 (by decide)) wXc9) rk3 (wXl 2 (by decide)) wXc2 1 gX2_reckonWhole_X3_getLong rfl rfl rfl (by decide +kernel) ⟨Nat.le_of_ble_eq_true rfl, Nat.le_of_ble_eq_true rfl⟩ rfl hl.1 rfl (Nat.le_of_ble_eq_true rfl) dX2_reckonWhole_32 ⟨Nat.le_of_ble_eq_true rfl, Nat.le_of_ble_eq_true rfl⟩) (fun r_8 u_9 H locs h_7 hw => ?_)
  subst h_7
  refine lv_lstore (lv' := [(4, .long (gN 4 (sJ κ 0) 0 xb)), (3, .int (sA κ 2 (aN xc))), (2, .int (sA κ 2 (aN xb))), (0, .ref (ad 4)), (1, .ref (ad ρ))]) hx hb dX2_reckonWhole_35 hl (by decide) rfl (fun ls hl => ?_)
  refine lv_aload_n hx hb dX2_reckonWhole_37 rfl (lv_at hl 3 rfl) ?_
  refine r_get hC hw rk2 in_X2_reckonWhole_2 4 (wXl 4 (by decide)) wXc4 0 (by decide) lk_X2_reckonWhole_9 (v := .ref (ad 2)) rfl dX2_reckonWhole_38 ?_
  refine lv_aload_n hx hb dX2_reckonWhole_41 rfl (lv_at hl 4 rfl) ?_
  refine r_get hC hw rk5 in_X2_reckonWhole_5 ρ hst.1 hst.2 3 (by decide) lk_X2_reckonWhole_37 (v := .int xc) rfl dX2_reckonWhole_42 ?_
  refine r_kl hw (r_runV (rest := []) hC hw 2 (c_X3_getLong l _ _ 2 9 xc (wXl 2 (by decide)) wXc2 (wXl 9 (by decide)) wXc9) rk3 (wXl 2 (by decide)) wXc2 1 gX2_reckonWhole_X3_getLong rfl rfl rfl (by decide +kernel) ⟨Nat.le_of_ble_eq_true rfl, Nat.le_of_ble_eq_true rfl⟩ rfl hl.1 rfl (Nat.le_of_ble_eq_true rfl) dX2_reckonWhole_45 ⟨Nat.le_of_ble_eq_true rfl, Nat.le_of_ble_eq_true rfl⟩) (fun r_11 u_12 H locs h_10 hw => ?_)
  subst h_10
  refine lv_lstore (lv' := [(6, .long (gN 4 (sJ κ 0) 0 xc)), (4, .long (gN 4 (sJ κ 0) 0 xb)), (3, .int (sA κ 2 (aN xc))), (2, .int (sA κ 2 (aN xb))), (0, .ref (ad 4)), (1, .ref (ad ρ))]) hx hb dX2_reckonWhole_48 hl (by decide) rfl (fun ls hl => ?_)
  refine lv_aload_n hx hb dX2_reckonWhole_50 rfl (lv_at hl 5 rfl) ?_
  refine r_get hC hw rk5 in_X2_reckonWhole_5 ρ hst.1 hst.2 0 (by decide) lk_X2_reckonWhole_15 (v := .int 7) rfl dX2_reckonWhole_51 ?_
  refine lv_tableIn (tgt := 236) hx hb dX2_reckonWhole_54 (by decide) (by decide) (by rfl) (by decide) ?_
  refine lv_aload_n hx hb dX2_reckonWhole_236 rfl (lv_at hl 4 rfl) ?_
  refine lv_aload_n hx hb dX2_reckonWhole_237 rfl (lv_at hl 5 rfl) ?_
  refine lv_iload_n hx hb dX2_reckonWhole_238 rfl (lv_at hl 3 rfl) ?_
  refine lv_iload_n hx hb dX2_reckonWhole_239 rfl (lv_at hl 2 rfl) ?_
  refine r_ki hw (r_runV (rest := []) hC hw 4 (c_X2_divideWords_7 l _ ρ xa xb xc (sA κ 2 (aN xb)) (sA κ 2 (aN xc)) hst hs) rk2 (wXl 4 (by decide)) wXc4 3 gX2_reckonWhole_X2_divideWords rfl rfl rfl (by decide +kernel) ⟨Nat.le_of_ble_eq_true rfl, Nat.le_of_ble_eq_true rfl⟩ rfl hl.1 rfl (Nat.le_of_ble_eq_true rfl) dX2_reckonWhole_240 ⟨Nat.le_of_ble_eq_true rfl, Nat.le_of_ble_eq_true rfl⟩) (fun r_14 u_15 H locs h_13 hw => ?_)
  have hd2 : (r_14, u_15) = doR κ hd th 7 xa xb xc := by
    rw [h_13]
    by_cases hz : sA κ 2 (aN xc) = 0
    · rw [if_pos hz]; exact (doRf (κ := κ) (hd := hd) (th := th) (k := 7) (a := xa) (b := xb) (c := xc) (if_pos hz) (by decide)).symm
    · rw [if_neg hz]; exact (doR0 (κ := κ) (hd := hd) (th := th) (k := 7) (a := xa) (b := xb) (c := xc) (if_neg hz)).symm
  exact r_iret hC hr hlk hw u_15 rfl hd2 (Nat.le_of_ble_eq_true rfl) (Nat.le_of_ble_eq_true rfl) dX2_reckonWhole_243

set_option maxHeartbeats 4000000 in
set_option maxRecDepth 100000 in
theorem c_X2_reckonWhole_8 (l : Launch) {D : va_G} {q : Nat → ClassId} {ad : Nat → Nat} {κ : KS} {τ : TAU} (sz : Nat) (ρ : Nat) (xa xb xc hd th : Int32) (hst : stepAt q ad κ τ ρ 8 xa xb xc) (hs : okStep 8 xa xb xc) : Met l yX2_reckonWhole wsX2_reckonWhole (rmz 2 48) (va_Pc [.ref (ad 4), .ref (ad ρ)] (rPre D q (wX q ad κ τ) sz)) (va_Qi (fun (r : Int32) (u : KS) => (r, u) = doR κ hd th 8 xa xb xc) (fun (u : KS) tt => rPo D (rA (wX q ad κ τ) sz) (wX q ad u τ) tt) (rA (wX q ad κ τ) sz)) 0 0 (rA (wX q ad κ τ) sz) := by
  have hi0 : vp_in xa 8 := hs.1
  have hi1 : vp_in xb 8 := hs.2.1
  have hi2 : vp_in xc 8 := hs.2.2
  refine r_start (cc := cX2_reckonWhole) (maxL := 8) (ret := (some .int)) (by decide) rfl (Nat.le_of_ble_eq_true rfl) ?_
  intro p e s m below meth c ls hC hr hlk hnm hsz hw hl
  have hx := hC.1
  have hb := hC.2.1
  have hl : lv_has ls 8 [(0, .ref (ad 4)), (1, .ref (ad ρ))] := hl
  refine lv_aload_n hx hb dX2_reckonWhole_0 rfl (lv_at hl 0 rfl) ?_
  refine r_get hC hw rk2 in_X2_reckonWhole_2 4 (wXl 4 (by decide)) wXc4 0 (by decide) lk_X2_reckonWhole_9 (v := .ref (ad 2)) rfl dX2_reckonWhole_1 ?_
  refine lv_aload_n hx hb dX2_reckonWhole_4 rfl (lv_at hl 1 rfl) ?_
  refine r_get hC hw rk5 in_X2_reckonWhole_5 ρ hst.1 hst.2 2 (by decide) lk_X2_reckonWhole_28 (v := .int xb) rfl dX2_reckonWhole_5 ?_
  refine r_ki hw (r_runV (rest := []) hC hw 2 (c_X3_getWord l _ _ 2 8 xb (wXl 2 (by decide)) wXc2 (wXl 8 (by decide)) wXc8) rk3 (wXl 2 (by decide)) wXc2 1 gX2_reckonWhole_X3_getWord rfl rfl rfl (by decide +kernel) ⟨Nat.le_of_ble_eq_true rfl, Nat.le_of_ble_eq_true rfl⟩ rfl hl.1 rfl (Nat.le_of_ble_eq_true rfl) dX2_reckonWhole_8 ⟨Nat.le_of_ble_eq_true rfl, Nat.le_of_ble_eq_true rfl⟩) (fun r_2 u_3 H locs h_1 hw => ?_)
  subst h_1
  refine r_topv (y := .int (sA κ 2 (aN xb))) (congrArg _ (gN_in (by assumption) (by decide))) ?_
  refine lv_istore_n (lv' := [(2, .int (sA κ 2 (aN xb))), (0, .ref (ad 4)), (1, .ref (ad ρ))]) hx hb dX2_reckonWhole_11 rfl hl (by decide) rfl (fun ls hl => ?_)
  refine lv_aload_n hx hb dX2_reckonWhole_12 rfl (lv_at hl 1 rfl) ?_
  refine r_get hC hw rk2 in_X2_reckonWhole_2 4 (wXl 4 (by decide)) wXc4 0 (by decide) lk_X2_reckonWhole_9 (v := .ref (ad 2)) rfl dX2_reckonWhole_13 ?_
  refine lv_aload_n hx hb dX2_reckonWhole_16 rfl (lv_at hl 2 rfl) ?_
  refine r_get hC hw rk5 in_X2_reckonWhole_5 ρ hst.1 hst.2 3 (by decide) lk_X2_reckonWhole_37 (v := .int xc) rfl dX2_reckonWhole_17 ?_
  refine r_ki hw (r_runV (rest := []) hC hw 2 (c_X3_getWord l _ _ 2 8 xc (wXl 2 (by decide)) wXc2 (wXl 8 (by decide)) wXc8) rk3 (wXl 2 (by decide)) wXc2 1 gX2_reckonWhole_X3_getWord rfl rfl rfl (by decide +kernel) ⟨Nat.le_of_ble_eq_true rfl, Nat.le_of_ble_eq_true rfl⟩ rfl hl.1 rfl (Nat.le_of_ble_eq_true rfl) dX2_reckonWhole_20 ⟨Nat.le_of_ble_eq_true rfl, Nat.le_of_ble_eq_true rfl⟩) (fun r_5 u_6 H locs h_4 hw => ?_)
  subst h_4
  refine r_topv (y := .int (sA κ 2 (aN xc))) (congrArg _ (gN_in (by assumption) (by decide))) ?_
  refine lv_istore_n (lv' := [(3, .int (sA κ 2 (aN xc))), (2, .int (sA κ 2 (aN xb))), (0, .ref (ad 4)), (1, .ref (ad ρ))]) hx hb dX2_reckonWhole_23 rfl hl (by decide) rfl (fun ls hl => ?_)
  refine lv_aload_n hx hb dX2_reckonWhole_24 rfl (lv_at hl 2 rfl) ?_
  refine r_get hC hw rk2 in_X2_reckonWhole_2 4 (wXl 4 (by decide)) wXc4 0 (by decide) lk_X2_reckonWhole_9 (v := .ref (ad 2)) rfl dX2_reckonWhole_25 ?_
  refine lv_aload_n hx hb dX2_reckonWhole_28 rfl (lv_at hl 3 rfl) ?_
  refine r_get hC hw rk5 in_X2_reckonWhole_5 ρ hst.1 hst.2 2 (by decide) lk_X2_reckonWhole_28 (v := .int xb) rfl dX2_reckonWhole_29 ?_
  refine r_kl hw (r_runV (rest := []) hC hw 2 (c_X3_getLong l _ _ 2 9 xb (wXl 2 (by decide)) wXc2 (wXl 9 (by decide)) wXc9) rk3 (wXl 2 (by decide)) wXc2 1 gX2_reckonWhole_X3_getLong rfl rfl rfl (by decide +kernel) ⟨Nat.le_of_ble_eq_true rfl, Nat.le_of_ble_eq_true rfl⟩ rfl hl.1 rfl (Nat.le_of_ble_eq_true rfl) dX2_reckonWhole_32 ⟨Nat.le_of_ble_eq_true rfl, Nat.le_of_ble_eq_true rfl⟩) (fun r_8 u_9 H locs h_7 hw => ?_)
  subst h_7
  refine lv_lstore (lv' := [(4, .long (gN 4 (sJ κ 0) 0 xb)), (3, .int (sA κ 2 (aN xc))), (2, .int (sA κ 2 (aN xb))), (0, .ref (ad 4)), (1, .ref (ad ρ))]) hx hb dX2_reckonWhole_35 hl (by decide) rfl (fun ls hl => ?_)
  refine lv_aload_n hx hb dX2_reckonWhole_37 rfl (lv_at hl 3 rfl) ?_
  refine r_get hC hw rk2 in_X2_reckonWhole_2 4 (wXl 4 (by decide)) wXc4 0 (by decide) lk_X2_reckonWhole_9 (v := .ref (ad 2)) rfl dX2_reckonWhole_38 ?_
  refine lv_aload_n hx hb dX2_reckonWhole_41 rfl (lv_at hl 4 rfl) ?_
  refine r_get hC hw rk5 in_X2_reckonWhole_5 ρ hst.1 hst.2 3 (by decide) lk_X2_reckonWhole_37 (v := .int xc) rfl dX2_reckonWhole_42 ?_
  refine r_kl hw (r_runV (rest := []) hC hw 2 (c_X3_getLong l _ _ 2 9 xc (wXl 2 (by decide)) wXc2 (wXl 9 (by decide)) wXc9) rk3 (wXl 2 (by decide)) wXc2 1 gX2_reckonWhole_X3_getLong rfl rfl rfl (by decide +kernel) ⟨Nat.le_of_ble_eq_true rfl, Nat.le_of_ble_eq_true rfl⟩ rfl hl.1 rfl (Nat.le_of_ble_eq_true rfl) dX2_reckonWhole_45 ⟨Nat.le_of_ble_eq_true rfl, Nat.le_of_ble_eq_true rfl⟩) (fun r_11 u_12 H locs h_10 hw => ?_)
  subst h_10
  refine lv_lstore (lv' := [(6, .long (gN 4 (sJ κ 0) 0 xc)), (4, .long (gN 4 (sJ κ 0) 0 xb)), (3, .int (sA κ 2 (aN xc))), (2, .int (sA κ 2 (aN xb))), (0, .ref (ad 4)), (1, .ref (ad ρ))]) hx hb dX2_reckonWhole_48 hl (by decide) rfl (fun ls hl => ?_)
  refine lv_aload_n hx hb dX2_reckonWhole_50 rfl (lv_at hl 5 rfl) ?_
  refine r_get hC hw rk5 in_X2_reckonWhole_5 ρ hst.1 hst.2 0 (by decide) lk_X2_reckonWhole_15 (v := .int 8) rfl dX2_reckonWhole_51 ?_
  refine lv_tableIn (tgt := 236) hx hb dX2_reckonWhole_54 (by decide) (by decide) (by rfl) (by decide) ?_
  refine lv_aload_n hx hb dX2_reckonWhole_236 rfl (lv_at hl 4 rfl) ?_
  refine lv_aload_n hx hb dX2_reckonWhole_237 rfl (lv_at hl 5 rfl) ?_
  refine lv_iload_n hx hb dX2_reckonWhole_238 rfl (lv_at hl 3 rfl) ?_
  refine lv_iload_n hx hb dX2_reckonWhole_239 rfl (lv_at hl 2 rfl) ?_
  refine r_ki hw (r_runV (rest := []) hC hw 4 (c_X2_divideWords_8 l _ ρ xa xb xc (sA κ 2 (aN xb)) (sA κ 2 (aN xc)) hst hs) rk2 (wXl 4 (by decide)) wXc4 3 gX2_reckonWhole_X2_divideWords rfl rfl rfl (by decide +kernel) ⟨Nat.le_of_ble_eq_true rfl, Nat.le_of_ble_eq_true rfl⟩ rfl hl.1 rfl (Nat.le_of_ble_eq_true rfl) dX2_reckonWhole_240 ⟨Nat.le_of_ble_eq_true rfl, Nat.le_of_ble_eq_true rfl⟩) (fun r_14 u_15 H locs h_13 hw => ?_)
  have hd2 : (r_14, u_15) = doR κ hd th 8 xa xb xc := by
    rw [h_13]
    by_cases hz : sA κ 2 (aN xc) = 0
    · rw [if_pos hz]; exact (doRf (κ := κ) (hd := hd) (th := th) (k := 8) (a := xa) (b := xb) (c := xc) (if_pos hz) (by decide)).symm
    · rw [if_neg hz]; exact (doR0 (κ := κ) (hd := hd) (th := th) (k := 8) (a := xa) (b := xb) (c := xc) (if_neg hz)).symm
  exact r_iret hC hr hlk hw u_15 rfl hd2 (Nat.le_of_ble_eq_true rfl) (Nat.le_of_ble_eq_true rfl) dX2_reckonWhole_243

set_option maxHeartbeats 4000000 in
set_option maxRecDepth 100000 in
theorem c_X2_reckonWhole_9 (l : Launch) {D : va_G} {q : Nat → ClassId} {ad : Nat → Nat} {κ : KS} {τ : TAU} (sz : Nat) (ρ : Nat) (xa xb xc hd th : Int32) (hst : stepAt q ad κ τ ρ 9 xa xb xc) (hs : okStep 9 xa xb xc) : Met l yX2_reckonWhole wsX2_reckonWhole (rmz 2 48) (va_Pc [.ref (ad 4), .ref (ad ρ)] (rPre D q (wX q ad κ τ) sz)) (va_Qi (fun (r : Int32) (u : KS) => (r, u) = doR κ hd th 9 xa xb xc) (fun (u : KS) tt => rPo D (rA (wX q ad κ τ) sz) (wX q ad u τ) tt) (rA (wX q ad κ τ) sz)) 0 0 (rA (wX q ad κ τ) sz) := by
  have hi0 : vp_in xa 4 := hs.1
  have hi1 : vp_in xb 4 := hs.2.1
  have hi2 : vp_in xc 4 := hs.2.2
  refine r_start (cc := cX2_reckonWhole) (maxL := 8) (ret := (some .int)) (by decide) rfl (Nat.le_of_ble_eq_true rfl) ?_
  intro p e s m below meth c ls hC hr hlk hnm hsz hw hl
  have hx := hC.1
  have hb := hC.2.1
  have hl : lv_has ls 8 [(0, .ref (ad 4)), (1, .ref (ad ρ))] := hl
  refine lv_aload_n hx hb dX2_reckonWhole_0 rfl (lv_at hl 0 rfl) ?_
  refine r_get hC hw rk2 in_X2_reckonWhole_2 4 (wXl 4 (by decide)) wXc4 0 (by decide) lk_X2_reckonWhole_9 (v := .ref (ad 2)) rfl dX2_reckonWhole_1 ?_
  refine lv_aload_n hx hb dX2_reckonWhole_4 rfl (lv_at hl 1 rfl) ?_
  refine r_get hC hw rk5 in_X2_reckonWhole_5 ρ hst.1 hst.2 2 (by decide) lk_X2_reckonWhole_28 (v := .int xb) rfl dX2_reckonWhole_5 ?_
  refine r_ki hw (r_runV (rest := []) hC hw 2 (c_X3_getWord l _ _ 2 8 xb (wXl 2 (by decide)) wXc2 (wXl 8 (by decide)) wXc8) rk3 (wXl 2 (by decide)) wXc2 1 gX2_reckonWhole_X3_getWord rfl rfl rfl (by decide +kernel) ⟨Nat.le_of_ble_eq_true rfl, Nat.le_of_ble_eq_true rfl⟩ rfl hl.1 rfl (Nat.le_of_ble_eq_true rfl) dX2_reckonWhole_8 ⟨Nat.le_of_ble_eq_true rfl, Nat.le_of_ble_eq_true rfl⟩) (fun r_2 u_3 H locs h_1 hw => ?_)
  subst h_1
  refine lv_istore_n (lv' := [(2, .int (gN 8 (sA κ 2) 0 xb)), (0, .ref (ad 4)), (1, .ref (ad ρ))]) hx hb dX2_reckonWhole_11 rfl hl (by decide) rfl (fun ls hl => ?_)
  refine lv_aload_n hx hb dX2_reckonWhole_12 rfl (lv_at hl 1 rfl) ?_
  refine r_get hC hw rk2 in_X2_reckonWhole_2 4 (wXl 4 (by decide)) wXc4 0 (by decide) lk_X2_reckonWhole_9 (v := .ref (ad 2)) rfl dX2_reckonWhole_13 ?_
  refine lv_aload_n hx hb dX2_reckonWhole_16 rfl (lv_at hl 2 rfl) ?_
  refine r_get hC hw rk5 in_X2_reckonWhole_5 ρ hst.1 hst.2 3 (by decide) lk_X2_reckonWhole_37 (v := .int xc) rfl dX2_reckonWhole_17 ?_
  refine r_ki hw (r_runV (rest := []) hC hw 2 (c_X3_getWord l _ _ 2 8 xc (wXl 2 (by decide)) wXc2 (wXl 8 (by decide)) wXc8) rk3 (wXl 2 (by decide)) wXc2 1 gX2_reckonWhole_X3_getWord rfl rfl rfl (by decide +kernel) ⟨Nat.le_of_ble_eq_true rfl, Nat.le_of_ble_eq_true rfl⟩ rfl hl.1 rfl (Nat.le_of_ble_eq_true rfl) dX2_reckonWhole_20 ⟨Nat.le_of_ble_eq_true rfl, Nat.le_of_ble_eq_true rfl⟩) (fun r_5 u_6 H locs h_4 hw => ?_)
  subst h_4
  refine lv_istore_n (lv' := [(3, .int (gN 8 (sA κ 2) 0 xc)), (2, .int (gN 8 (sA κ 2) 0 xb)), (0, .ref (ad 4)), (1, .ref (ad ρ))]) hx hb dX2_reckonWhole_23 rfl hl (by decide) rfl (fun ls hl => ?_)
  refine lv_aload_n hx hb dX2_reckonWhole_24 rfl (lv_at hl 2 rfl) ?_
  refine r_get hC hw rk2 in_X2_reckonWhole_2 4 (wXl 4 (by decide)) wXc4 0 (by decide) lk_X2_reckonWhole_9 (v := .ref (ad 2)) rfl dX2_reckonWhole_25 ?_
  refine lv_aload_n hx hb dX2_reckonWhole_28 rfl (lv_at hl 3 rfl) ?_
  refine r_get hC hw rk5 in_X2_reckonWhole_5 ρ hst.1 hst.2 2 (by decide) lk_X2_reckonWhole_28 (v := .int xb) rfl dX2_reckonWhole_29 ?_
  refine r_kl hw (r_runV (rest := []) hC hw 2 (c_X3_getLong l _ _ 2 9 xb (wXl 2 (by decide)) wXc2 (wXl 9 (by decide)) wXc9) rk3 (wXl 2 (by decide)) wXc2 1 gX2_reckonWhole_X3_getLong rfl rfl rfl (by decide +kernel) ⟨Nat.le_of_ble_eq_true rfl, Nat.le_of_ble_eq_true rfl⟩ rfl hl.1 rfl (Nat.le_of_ble_eq_true rfl) dX2_reckonWhole_32 ⟨Nat.le_of_ble_eq_true rfl, Nat.le_of_ble_eq_true rfl⟩) (fun r_8 u_9 H locs h_7 hw => ?_)
  subst h_7
  refine r_topv (y := .long (sJ κ 0 (aN xb))) (congrArg _ (gN_in (by assumption) (by decide))) ?_
  refine lv_lstore (lv' := [(4, .long (sJ κ 0 (aN xb))), (3, .int (gN 8 (sA κ 2) 0 xc)), (2, .int (gN 8 (sA κ 2) 0 xb)), (0, .ref (ad 4)), (1, .ref (ad ρ))]) hx hb dX2_reckonWhole_35 hl (by decide) rfl (fun ls hl => ?_)
  refine lv_aload_n hx hb dX2_reckonWhole_37 rfl (lv_at hl 3 rfl) ?_
  refine r_get hC hw rk2 in_X2_reckonWhole_2 4 (wXl 4 (by decide)) wXc4 0 (by decide) lk_X2_reckonWhole_9 (v := .ref (ad 2)) rfl dX2_reckonWhole_38 ?_
  refine lv_aload_n hx hb dX2_reckonWhole_41 rfl (lv_at hl 4 rfl) ?_
  refine r_get hC hw rk5 in_X2_reckonWhole_5 ρ hst.1 hst.2 3 (by decide) lk_X2_reckonWhole_37 (v := .int xc) rfl dX2_reckonWhole_42 ?_
  refine r_kl hw (r_runV (rest := []) hC hw 2 (c_X3_getLong l _ _ 2 9 xc (wXl 2 (by decide)) wXc2 (wXl 9 (by decide)) wXc9) rk3 (wXl 2 (by decide)) wXc2 1 gX2_reckonWhole_X3_getLong rfl rfl rfl (by decide +kernel) ⟨Nat.le_of_ble_eq_true rfl, Nat.le_of_ble_eq_true rfl⟩ rfl hl.1 rfl (Nat.le_of_ble_eq_true rfl) dX2_reckonWhole_45 ⟨Nat.le_of_ble_eq_true rfl, Nat.le_of_ble_eq_true rfl⟩) (fun r_11 u_12 H locs h_10 hw => ?_)
  subst h_10
  refine r_topv (y := .long (sJ κ 0 (aN xc))) (congrArg _ (gN_in (by assumption) (by decide))) ?_
  refine lv_lstore (lv' := [(6, .long (sJ κ 0 (aN xc))), (4, .long (sJ κ 0 (aN xb))), (3, .int (gN 8 (sA κ 2) 0 xc)), (2, .int (gN 8 (sA κ 2) 0 xb)), (0, .ref (ad 4)), (1, .ref (ad ρ))]) hx hb dX2_reckonWhole_48 hl (by decide) rfl (fun ls hl => ?_)
  refine lv_aload_n hx hb dX2_reckonWhole_50 rfl (lv_at hl 5 rfl) ?_
  refine r_get hC hw rk5 in_X2_reckonWhole_5 ρ hst.1 hst.2 0 (by decide) lk_X2_reckonWhole_15 (v := .int 9) rfl dX2_reckonWhole_51 ?_
  refine lv_tableIn (tgt := 244) hx hb dX2_reckonWhole_54 (by decide) (by decide) (by rfl) (by decide) ?_
  refine lv_aload_n hx hb dX2_reckonWhole_244 rfl (lv_at hl 4 rfl) ?_
  refine r_get hC hw rk2 in_X2_reckonWhole_2 4 (wXl 4 (by decide)) wXc4 0 (by decide) lk_X2_reckonWhole_9 (v := .ref (ad 2)) rfl dX2_reckonWhole_245 ?_
  refine lv_aload_n hx hb dX2_reckonWhole_248 rfl (lv_at hl 5 rfl) ?_
  refine r_get hC hw rk5 in_X2_reckonWhole_5 ρ hst.1 hst.2 1 (by decide) lk_X2_reckonWhole_44 (v := .int xa) rfl dX2_reckonWhole_249 ?_
  refine lv_lload hx hb dX2_reckonWhole_252 (lv_at hl 1 rfl) ?_
  refine lv_lload hx hb dX2_reckonWhole_254 (lv_at hl 0 rfl) ?_
  refine lv_ladd hx hb dX2_reckonWhole_256 ?_
  refine r_kv hw (r_runV (rest := []) hC hw 2 (c_X3_setLong l _ _ 2 9 xa ((sJ κ 0 (aN xb)) + (sJ κ 0 (aN xc))) (by assumption) (wXl 2 (by decide)) wXc2 (wXl 9 (by decide)) wXc9) rk3 (wXl 2 (by decide)) wXc2 2 gX2_reckonWhole_X3_setLong rfl rfl rfl (by decide +kernel) ⟨Nat.le_of_ble_eq_true rfl, Nat.le_of_ble_eq_true rfl⟩ rfl hl.1 rfl (Nat.le_of_ble_eq_true rfl) dX2_reckonWhole_257 ⟨Nat.le_of_ble_eq_true rfl, Nat.le_of_ble_eq_true rfl⟩) (fun u_15 H locs h_13 hw => ?_)
  replace hw := xS_longs hw
  refine lv_goto (tgt := 322) hx hb dX2_reckonWhole_260 (by decide) ?_
  refine lv_iconst (v := 0) hx hb dX2_reckonWhole_322 (by decide) ?_
  exact r_iret hC hr hlk hw (uJ κ 0 (aN xa) ((sJ κ 0 (aN xb)) + (sJ κ 0 (aN xc)))) rfl (doR0 (κ := κ) (hd := hd) (th := th) (k := 9) (a := xa) (b := xb) (c := xc) rfl).symm (Nat.le_of_ble_eq_true rfl) (Nat.le_of_ble_eq_true rfl) dX2_reckonWhole_323

set_option maxHeartbeats 4000000 in
set_option maxRecDepth 100000 in
theorem c_X2_reckonWhole_10 (l : Launch) {D : va_G} {q : Nat → ClassId} {ad : Nat → Nat} {κ : KS} {τ : TAU} (sz : Nat) (ρ : Nat) (xa xb xc hd th : Int32) (hst : stepAt q ad κ τ ρ 10 xa xb xc) (hs : okStep 10 xa xb xc) : Met l yX2_reckonWhole wsX2_reckonWhole (rmz 2 48) (va_Pc [.ref (ad 4), .ref (ad ρ)] (rPre D q (wX q ad κ τ) sz)) (va_Qi (fun (r : Int32) (u : KS) => (r, u) = doR κ hd th 10 xa xb xc) (fun (u : KS) tt => rPo D (rA (wX q ad κ τ) sz) (wX q ad u τ) tt) (rA (wX q ad κ τ) sz)) 0 0 (rA (wX q ad κ τ) sz) := by
  have hi0 : vp_in xa 4 := hs.1
  have hi1 : vp_in xb 4 := hs.2.1
  have hi2 : vp_in xc 4 := hs.2.2
  refine r_start (cc := cX2_reckonWhole) (maxL := 8) (ret := (some .int)) (by decide) rfl (Nat.le_of_ble_eq_true rfl) ?_
  intro p e s m below meth c ls hC hr hlk hnm hsz hw hl
  have hx := hC.1
  have hb := hC.2.1
  have hl : lv_has ls 8 [(0, .ref (ad 4)), (1, .ref (ad ρ))] := hl
  refine lv_aload_n hx hb dX2_reckonWhole_0 rfl (lv_at hl 0 rfl) ?_
  refine r_get hC hw rk2 in_X2_reckonWhole_2 4 (wXl 4 (by decide)) wXc4 0 (by decide) lk_X2_reckonWhole_9 (v := .ref (ad 2)) rfl dX2_reckonWhole_1 ?_
  refine lv_aload_n hx hb dX2_reckonWhole_4 rfl (lv_at hl 1 rfl) ?_
  refine r_get hC hw rk5 in_X2_reckonWhole_5 ρ hst.1 hst.2 2 (by decide) lk_X2_reckonWhole_28 (v := .int xb) rfl dX2_reckonWhole_5 ?_
  refine r_ki hw (r_runV (rest := []) hC hw 2 (c_X3_getWord l _ _ 2 8 xb (wXl 2 (by decide)) wXc2 (wXl 8 (by decide)) wXc8) rk3 (wXl 2 (by decide)) wXc2 1 gX2_reckonWhole_X3_getWord rfl rfl rfl (by decide +kernel) ⟨Nat.le_of_ble_eq_true rfl, Nat.le_of_ble_eq_true rfl⟩ rfl hl.1 rfl (Nat.le_of_ble_eq_true rfl) dX2_reckonWhole_8 ⟨Nat.le_of_ble_eq_true rfl, Nat.le_of_ble_eq_true rfl⟩) (fun r_2 u_3 H locs h_1 hw => ?_)
  subst h_1
  refine lv_istore_n (lv' := [(2, .int (gN 8 (sA κ 2) 0 xb)), (0, .ref (ad 4)), (1, .ref (ad ρ))]) hx hb dX2_reckonWhole_11 rfl hl (by decide) rfl (fun ls hl => ?_)
  refine lv_aload_n hx hb dX2_reckonWhole_12 rfl (lv_at hl 1 rfl) ?_
  refine r_get hC hw rk2 in_X2_reckonWhole_2 4 (wXl 4 (by decide)) wXc4 0 (by decide) lk_X2_reckonWhole_9 (v := .ref (ad 2)) rfl dX2_reckonWhole_13 ?_
  refine lv_aload_n hx hb dX2_reckonWhole_16 rfl (lv_at hl 2 rfl) ?_
  refine r_get hC hw rk5 in_X2_reckonWhole_5 ρ hst.1 hst.2 3 (by decide) lk_X2_reckonWhole_37 (v := .int xc) rfl dX2_reckonWhole_17 ?_
  refine r_ki hw (r_runV (rest := []) hC hw 2 (c_X3_getWord l _ _ 2 8 xc (wXl 2 (by decide)) wXc2 (wXl 8 (by decide)) wXc8) rk3 (wXl 2 (by decide)) wXc2 1 gX2_reckonWhole_X3_getWord rfl rfl rfl (by decide +kernel) ⟨Nat.le_of_ble_eq_true rfl, Nat.le_of_ble_eq_true rfl⟩ rfl hl.1 rfl (Nat.le_of_ble_eq_true rfl) dX2_reckonWhole_20 ⟨Nat.le_of_ble_eq_true rfl, Nat.le_of_ble_eq_true rfl⟩) (fun r_5 u_6 H locs h_4 hw => ?_)
  subst h_4
  refine lv_istore_n (lv' := [(3, .int (gN 8 (sA κ 2) 0 xc)), (2, .int (gN 8 (sA κ 2) 0 xb)), (0, .ref (ad 4)), (1, .ref (ad ρ))]) hx hb dX2_reckonWhole_23 rfl hl (by decide) rfl (fun ls hl => ?_)
  refine lv_aload_n hx hb dX2_reckonWhole_24 rfl (lv_at hl 2 rfl) ?_
  refine r_get hC hw rk2 in_X2_reckonWhole_2 4 (wXl 4 (by decide)) wXc4 0 (by decide) lk_X2_reckonWhole_9 (v := .ref (ad 2)) rfl dX2_reckonWhole_25 ?_
  refine lv_aload_n hx hb dX2_reckonWhole_28 rfl (lv_at hl 3 rfl) ?_
  refine r_get hC hw rk5 in_X2_reckonWhole_5 ρ hst.1 hst.2 2 (by decide) lk_X2_reckonWhole_28 (v := .int xb) rfl dX2_reckonWhole_29 ?_
  refine r_kl hw (r_runV (rest := []) hC hw 2 (c_X3_getLong l _ _ 2 9 xb (wXl 2 (by decide)) wXc2 (wXl 9 (by decide)) wXc9) rk3 (wXl 2 (by decide)) wXc2 1 gX2_reckonWhole_X3_getLong rfl rfl rfl (by decide +kernel) ⟨Nat.le_of_ble_eq_true rfl, Nat.le_of_ble_eq_true rfl⟩ rfl hl.1 rfl (Nat.le_of_ble_eq_true rfl) dX2_reckonWhole_32 ⟨Nat.le_of_ble_eq_true rfl, Nat.le_of_ble_eq_true rfl⟩) (fun r_8 u_9 H locs h_7 hw => ?_)
  subst h_7
  refine r_topv (y := .long (sJ κ 0 (aN xb))) (congrArg _ (gN_in (by assumption) (by decide))) ?_
  refine lv_lstore (lv' := [(4, .long (sJ κ 0 (aN xb))), (3, .int (gN 8 (sA κ 2) 0 xc)), (2, .int (gN 8 (sA κ 2) 0 xb)), (0, .ref (ad 4)), (1, .ref (ad ρ))]) hx hb dX2_reckonWhole_35 hl (by decide) rfl (fun ls hl => ?_)
  refine lv_aload_n hx hb dX2_reckonWhole_37 rfl (lv_at hl 3 rfl) ?_
  refine r_get hC hw rk2 in_X2_reckonWhole_2 4 (wXl 4 (by decide)) wXc4 0 (by decide) lk_X2_reckonWhole_9 (v := .ref (ad 2)) rfl dX2_reckonWhole_38 ?_
  refine lv_aload_n hx hb dX2_reckonWhole_41 rfl (lv_at hl 4 rfl) ?_
  refine r_get hC hw rk5 in_X2_reckonWhole_5 ρ hst.1 hst.2 3 (by decide) lk_X2_reckonWhole_37 (v := .int xc) rfl dX2_reckonWhole_42 ?_
  refine r_kl hw (r_runV (rest := []) hC hw 2 (c_X3_getLong l _ _ 2 9 xc (wXl 2 (by decide)) wXc2 (wXl 9 (by decide)) wXc9) rk3 (wXl 2 (by decide)) wXc2 1 gX2_reckonWhole_X3_getLong rfl rfl rfl (by decide +kernel) ⟨Nat.le_of_ble_eq_true rfl, Nat.le_of_ble_eq_true rfl⟩ rfl hl.1 rfl (Nat.le_of_ble_eq_true rfl) dX2_reckonWhole_45 ⟨Nat.le_of_ble_eq_true rfl, Nat.le_of_ble_eq_true rfl⟩) (fun r_11 u_12 H locs h_10 hw => ?_)
  subst h_10
  refine r_topv (y := .long (sJ κ 0 (aN xc))) (congrArg _ (gN_in (by assumption) (by decide))) ?_
  refine lv_lstore (lv' := [(6, .long (sJ κ 0 (aN xc))), (4, .long (sJ κ 0 (aN xb))), (3, .int (gN 8 (sA κ 2) 0 xc)), (2, .int (gN 8 (sA κ 2) 0 xb)), (0, .ref (ad 4)), (1, .ref (ad ρ))]) hx hb dX2_reckonWhole_48 hl (by decide) rfl (fun ls hl => ?_)
  refine lv_aload_n hx hb dX2_reckonWhole_50 rfl (lv_at hl 5 rfl) ?_
  refine r_get hC hw rk5 in_X2_reckonWhole_5 ρ hst.1 hst.2 0 (by decide) lk_X2_reckonWhole_15 (v := .int 10) rfl dX2_reckonWhole_51 ?_
  refine lv_tableIn (tgt := 263) hx hb dX2_reckonWhole_54 (by decide) (by decide) (by rfl) (by decide) ?_
  refine lv_aload_n hx hb dX2_reckonWhole_263 rfl (lv_at hl 4 rfl) ?_
  refine r_get hC hw rk2 in_X2_reckonWhole_2 4 (wXl 4 (by decide)) wXc4 0 (by decide) lk_X2_reckonWhole_9 (v := .ref (ad 2)) rfl dX2_reckonWhole_264 ?_
  refine lv_aload_n hx hb dX2_reckonWhole_267 rfl (lv_at hl 5 rfl) ?_
  refine r_get hC hw rk5 in_X2_reckonWhole_5 ρ hst.1 hst.2 1 (by decide) lk_X2_reckonWhole_44 (v := .int xa) rfl dX2_reckonWhole_268 ?_
  refine lv_lload hx hb dX2_reckonWhole_271 (lv_at hl 1 rfl) ?_
  refine lv_lload hx hb dX2_reckonWhole_273 (lv_at hl 0 rfl) ?_
  refine lv_lmul hx hb dX2_reckonWhole_275 ?_
  refine r_kv hw (r_runV (rest := []) hC hw 2 (c_X3_setLong l _ _ 2 9 xa ((sJ κ 0 (aN xb)) * (sJ κ 0 (aN xc))) (by assumption) (wXl 2 (by decide)) wXc2 (wXl 9 (by decide)) wXc9) rk3 (wXl 2 (by decide)) wXc2 2 gX2_reckonWhole_X3_setLong rfl rfl rfl (by decide +kernel) ⟨Nat.le_of_ble_eq_true rfl, Nat.le_of_ble_eq_true rfl⟩ rfl hl.1 rfl (Nat.le_of_ble_eq_true rfl) dX2_reckonWhole_276 ⟨Nat.le_of_ble_eq_true rfl, Nat.le_of_ble_eq_true rfl⟩) (fun u_15 H locs h_13 hw => ?_)
  replace hw := xS_longs hw
  refine lv_goto (tgt := 322) hx hb dX2_reckonWhole_279 (by decide) ?_
  refine lv_iconst (v := 0) hx hb dX2_reckonWhole_322 (by decide) ?_
  exact r_iret hC hr hlk hw (uJ κ 0 (aN xa) ((sJ κ 0 (aN xb)) * (sJ κ 0 (aN xc)))) rfl (doR0 (κ := κ) (hd := hd) (th := th) (k := 10) (a := xa) (b := xb) (c := xc) rfl).symm (Nat.le_of_ble_eq_true rfl) (Nat.le_of_ble_eq_true rfl) dX2_reckonWhole_323

set_option maxHeartbeats 4000000 in
set_option maxRecDepth 100000 in
theorem c_X2_reckonWhole_11 (l : Launch) {D : va_G} {q : Nat → ClassId} {ad : Nat → Nat} {κ : KS} {τ : TAU} (sz : Nat) (ρ : Nat) (xa xb xc hd th : Int32) (hst : stepAt q ad κ τ ρ 11 xa xb xc) (hs : okStep 11 xa xb xc) : Met l yX2_reckonWhole wsX2_reckonWhole (rmz 2 48) (va_Pc [.ref (ad 4), .ref (ad ρ)] (rPre D q (wX q ad κ τ) sz)) (va_Qi (fun (r : Int32) (u : KS) => (r, u) = doR κ hd th 11 xa xb xc) (fun (u : KS) tt => rPo D (rA (wX q ad κ τ) sz) (wX q ad u τ) tt) (rA (wX q ad κ τ) sz)) 0 0 (rA (wX q ad κ τ) sz) := by
  have hi0 : vp_in xa 4 := hs.1
  have hi1 : vp_in xb 4 := hs.2.1
  have hi2 : vp_in xc 4 := hs.2.2
  refine r_start (cc := cX2_reckonWhole) (maxL := 8) (ret := (some .int)) (by decide) rfl (Nat.le_of_ble_eq_true rfl) ?_
  intro p e s m below meth c ls hC hr hlk hnm hsz hw hl
  have hx := hC.1
  have hb := hC.2.1
  have hl : lv_has ls 8 [(0, .ref (ad 4)), (1, .ref (ad ρ))] := hl
  refine lv_aload_n hx hb dX2_reckonWhole_0 rfl (lv_at hl 0 rfl) ?_
  refine r_get hC hw rk2 in_X2_reckonWhole_2 4 (wXl 4 (by decide)) wXc4 0 (by decide) lk_X2_reckonWhole_9 (v := .ref (ad 2)) rfl dX2_reckonWhole_1 ?_
  refine lv_aload_n hx hb dX2_reckonWhole_4 rfl (lv_at hl 1 rfl) ?_
  refine r_get hC hw rk5 in_X2_reckonWhole_5 ρ hst.1 hst.2 2 (by decide) lk_X2_reckonWhole_28 (v := .int xb) rfl dX2_reckonWhole_5 ?_
  refine r_ki hw (r_runV (rest := []) hC hw 2 (c_X3_getWord l _ _ 2 8 xb (wXl 2 (by decide)) wXc2 (wXl 8 (by decide)) wXc8) rk3 (wXl 2 (by decide)) wXc2 1 gX2_reckonWhole_X3_getWord rfl rfl rfl (by decide +kernel) ⟨Nat.le_of_ble_eq_true rfl, Nat.le_of_ble_eq_true rfl⟩ rfl hl.1 rfl (Nat.le_of_ble_eq_true rfl) dX2_reckonWhole_8 ⟨Nat.le_of_ble_eq_true rfl, Nat.le_of_ble_eq_true rfl⟩) (fun r_2 u_3 H locs h_1 hw => ?_)
  subst h_1
  refine lv_istore_n (lv' := [(2, .int (gN 8 (sA κ 2) 0 xb)), (0, .ref (ad 4)), (1, .ref (ad ρ))]) hx hb dX2_reckonWhole_11 rfl hl (by decide) rfl (fun ls hl => ?_)
  refine lv_aload_n hx hb dX2_reckonWhole_12 rfl (lv_at hl 1 rfl) ?_
  refine r_get hC hw rk2 in_X2_reckonWhole_2 4 (wXl 4 (by decide)) wXc4 0 (by decide) lk_X2_reckonWhole_9 (v := .ref (ad 2)) rfl dX2_reckonWhole_13 ?_
  refine lv_aload_n hx hb dX2_reckonWhole_16 rfl (lv_at hl 2 rfl) ?_
  refine r_get hC hw rk5 in_X2_reckonWhole_5 ρ hst.1 hst.2 3 (by decide) lk_X2_reckonWhole_37 (v := .int xc) rfl dX2_reckonWhole_17 ?_
  refine r_ki hw (r_runV (rest := []) hC hw 2 (c_X3_getWord l _ _ 2 8 xc (wXl 2 (by decide)) wXc2 (wXl 8 (by decide)) wXc8) rk3 (wXl 2 (by decide)) wXc2 1 gX2_reckonWhole_X3_getWord rfl rfl rfl (by decide +kernel) ⟨Nat.le_of_ble_eq_true rfl, Nat.le_of_ble_eq_true rfl⟩ rfl hl.1 rfl (Nat.le_of_ble_eq_true rfl) dX2_reckonWhole_20 ⟨Nat.le_of_ble_eq_true rfl, Nat.le_of_ble_eq_true rfl⟩) (fun r_5 u_6 H locs h_4 hw => ?_)
  subst h_4
  refine lv_istore_n (lv' := [(3, .int (gN 8 (sA κ 2) 0 xc)), (2, .int (gN 8 (sA κ 2) 0 xb)), (0, .ref (ad 4)), (1, .ref (ad ρ))]) hx hb dX2_reckonWhole_23 rfl hl (by decide) rfl (fun ls hl => ?_)
  refine lv_aload_n hx hb dX2_reckonWhole_24 rfl (lv_at hl 2 rfl) ?_
  refine r_get hC hw rk2 in_X2_reckonWhole_2 4 (wXl 4 (by decide)) wXc4 0 (by decide) lk_X2_reckonWhole_9 (v := .ref (ad 2)) rfl dX2_reckonWhole_25 ?_
  refine lv_aload_n hx hb dX2_reckonWhole_28 rfl (lv_at hl 3 rfl) ?_
  refine r_get hC hw rk5 in_X2_reckonWhole_5 ρ hst.1 hst.2 2 (by decide) lk_X2_reckonWhole_28 (v := .int xb) rfl dX2_reckonWhole_29 ?_
  refine r_kl hw (r_runV (rest := []) hC hw 2 (c_X3_getLong l _ _ 2 9 xb (wXl 2 (by decide)) wXc2 (wXl 9 (by decide)) wXc9) rk3 (wXl 2 (by decide)) wXc2 1 gX2_reckonWhole_X3_getLong rfl rfl rfl (by decide +kernel) ⟨Nat.le_of_ble_eq_true rfl, Nat.le_of_ble_eq_true rfl⟩ rfl hl.1 rfl (Nat.le_of_ble_eq_true rfl) dX2_reckonWhole_32 ⟨Nat.le_of_ble_eq_true rfl, Nat.le_of_ble_eq_true rfl⟩) (fun r_8 u_9 H locs h_7 hw => ?_)
  subst h_7
  refine r_topv (y := .long (sJ κ 0 (aN xb))) (congrArg _ (gN_in (by assumption) (by decide))) ?_
  refine lv_lstore (lv' := [(4, .long (sJ κ 0 (aN xb))), (3, .int (gN 8 (sA κ 2) 0 xc)), (2, .int (gN 8 (sA κ 2) 0 xb)), (0, .ref (ad 4)), (1, .ref (ad ρ))]) hx hb dX2_reckonWhole_35 hl (by decide) rfl (fun ls hl => ?_)
  refine lv_aload_n hx hb dX2_reckonWhole_37 rfl (lv_at hl 3 rfl) ?_
  refine r_get hC hw rk2 in_X2_reckonWhole_2 4 (wXl 4 (by decide)) wXc4 0 (by decide) lk_X2_reckonWhole_9 (v := .ref (ad 2)) rfl dX2_reckonWhole_38 ?_
  refine lv_aload_n hx hb dX2_reckonWhole_41 rfl (lv_at hl 4 rfl) ?_
  refine r_get hC hw rk5 in_X2_reckonWhole_5 ρ hst.1 hst.2 3 (by decide) lk_X2_reckonWhole_37 (v := .int xc) rfl dX2_reckonWhole_42 ?_
  refine r_kl hw (r_runV (rest := []) hC hw 2 (c_X3_getLong l _ _ 2 9 xc (wXl 2 (by decide)) wXc2 (wXl 9 (by decide)) wXc9) rk3 (wXl 2 (by decide)) wXc2 1 gX2_reckonWhole_X3_getLong rfl rfl rfl (by decide +kernel) ⟨Nat.le_of_ble_eq_true rfl, Nat.le_of_ble_eq_true rfl⟩ rfl hl.1 rfl (Nat.le_of_ble_eq_true rfl) dX2_reckonWhole_45 ⟨Nat.le_of_ble_eq_true rfl, Nat.le_of_ble_eq_true rfl⟩) (fun r_11 u_12 H locs h_10 hw => ?_)
  subst h_10
  refine r_topv (y := .long (sJ κ 0 (aN xc))) (congrArg _ (gN_in (by assumption) (by decide))) ?_
  refine lv_lstore (lv' := [(6, .long (sJ κ 0 (aN xc))), (4, .long (sJ κ 0 (aN xb))), (3, .int (gN 8 (sA κ 2) 0 xc)), (2, .int (gN 8 (sA κ 2) 0 xb)), (0, .ref (ad 4)), (1, .ref (ad ρ))]) hx hb dX2_reckonWhole_48 hl (by decide) rfl (fun ls hl => ?_)
  refine lv_aload_n hx hb dX2_reckonWhole_50 rfl (lv_at hl 5 rfl) ?_
  refine r_get hC hw rk5 in_X2_reckonWhole_5 ρ hst.1 hst.2 0 (by decide) lk_X2_reckonWhole_15 (v := .int 11) rfl dX2_reckonWhole_51 ?_
  refine lv_tableIn (tgt := 282) hx hb dX2_reckonWhole_54 (by decide) (by decide) (by rfl) (by decide) ?_
  refine lv_aload_n hx hb dX2_reckonWhole_282 rfl (lv_at hl 4 rfl) ?_
  refine lv_aload_n hx hb dX2_reckonWhole_283 rfl (lv_at hl 5 rfl) ?_
  refine lv_lload hx hb dX2_reckonWhole_284 (lv_at hl 1 rfl) ?_
  refine lv_lload hx hb dX2_reckonWhole_286 (lv_at hl 0 rfl) ?_
  refine r_ki hw (r_runV (rest := []) hC hw 4 (c_X2_divideLongs_11 l _ ρ xa xb xc (sJ κ 0 (aN xb)) (sJ κ 0 (aN xc)) hst hs) rk2 (wXl 4 (by decide)) wXc4 3 gX2_reckonWhole_X2_divideLongs rfl rfl rfl (by decide +kernel) ⟨Nat.le_of_ble_eq_true rfl, Nat.le_of_ble_eq_true rfl⟩ rfl hl.1 rfl (Nat.le_of_ble_eq_true rfl) dX2_reckonWhole_288 ⟨Nat.le_of_ble_eq_true rfl, Nat.le_of_ble_eq_true rfl⟩) (fun r_14 u_15 H locs h_13 hw => ?_)
  have hd2 : (r_14, u_15) = doR κ hd th 11 xa xb xc := by
    rw [h_13]
    by_cases hz : lg_cmp (sJ κ 0 (aN xc)) 0 = 0
    · rw [if_pos hz]; exact (doRf (κ := κ) (hd := hd) (th := th) (k := 11) (a := xa) (b := xb) (c := xc) (if_pos hz) (by decide)).symm
    · rw [if_neg hz]; exact (doR0 (κ := κ) (hd := hd) (th := th) (k := 11) (a := xa) (b := xb) (c := xc) (if_neg hz)).symm
  exact r_iret hC hr hlk hw u_15 rfl hd2 (Nat.le_of_ble_eq_true rfl) (Nat.le_of_ble_eq_true rfl) dX2_reckonWhole_291

set_option maxHeartbeats 4000000 in
set_option maxRecDepth 100000 in
theorem c_X2_reckonWhole_12 (l : Launch) {D : va_G} {q : Nat → ClassId} {ad : Nat → Nat} {κ : KS} {τ : TAU} (sz : Nat) (ρ : Nat) (xa xb xc hd th : Int32) (hst : stepAt q ad κ τ ρ 12 xa xb xc) (hs : okStep 12 xa xb xc) : Met l yX2_reckonWhole wsX2_reckonWhole (rmz 2 48) (va_Pc [.ref (ad 4), .ref (ad ρ)] (rPre D q (wX q ad κ τ) sz)) (va_Qi (fun (r : Int32) (u : KS) => (r, u) = doR κ hd th 12 xa xb xc) (fun (u : KS) tt => rPo D (rA (wX q ad κ τ) sz) (wX q ad u τ) tt) (rA (wX q ad κ τ) sz)) 0 0 (rA (wX q ad κ τ) sz) := by
  have hi0 : vp_in xa 4 := hs.1
  have hi1 : vp_in xb 4 := hs.2.1
  have hi2 : vp_in xc 4 := hs.2.2
  refine r_start (cc := cX2_reckonWhole) (maxL := 8) (ret := (some .int)) (by decide) rfl (Nat.le_of_ble_eq_true rfl) ?_
  intro p e s m below meth c ls hC hr hlk hnm hsz hw hl
  have hx := hC.1
  have hb := hC.2.1
  have hl : lv_has ls 8 [(0, .ref (ad 4)), (1, .ref (ad ρ))] := hl
  refine lv_aload_n hx hb dX2_reckonWhole_0 rfl (lv_at hl 0 rfl) ?_
  refine r_get hC hw rk2 in_X2_reckonWhole_2 4 (wXl 4 (by decide)) wXc4 0 (by decide) lk_X2_reckonWhole_9 (v := .ref (ad 2)) rfl dX2_reckonWhole_1 ?_
  refine lv_aload_n hx hb dX2_reckonWhole_4 rfl (lv_at hl 1 rfl) ?_
  refine r_get hC hw rk5 in_X2_reckonWhole_5 ρ hst.1 hst.2 2 (by decide) lk_X2_reckonWhole_28 (v := .int xb) rfl dX2_reckonWhole_5 ?_
  refine r_ki hw (r_runV (rest := []) hC hw 2 (c_X3_getWord l _ _ 2 8 xb (wXl 2 (by decide)) wXc2 (wXl 8 (by decide)) wXc8) rk3 (wXl 2 (by decide)) wXc2 1 gX2_reckonWhole_X3_getWord rfl rfl rfl (by decide +kernel) ⟨Nat.le_of_ble_eq_true rfl, Nat.le_of_ble_eq_true rfl⟩ rfl hl.1 rfl (Nat.le_of_ble_eq_true rfl) dX2_reckonWhole_8 ⟨Nat.le_of_ble_eq_true rfl, Nat.le_of_ble_eq_true rfl⟩) (fun r_2 u_3 H locs h_1 hw => ?_)
  subst h_1
  refine lv_istore_n (lv' := [(2, .int (gN 8 (sA κ 2) 0 xb)), (0, .ref (ad 4)), (1, .ref (ad ρ))]) hx hb dX2_reckonWhole_11 rfl hl (by decide) rfl (fun ls hl => ?_)
  refine lv_aload_n hx hb dX2_reckonWhole_12 rfl (lv_at hl 1 rfl) ?_
  refine r_get hC hw rk2 in_X2_reckonWhole_2 4 (wXl 4 (by decide)) wXc4 0 (by decide) lk_X2_reckonWhole_9 (v := .ref (ad 2)) rfl dX2_reckonWhole_13 ?_
  refine lv_aload_n hx hb dX2_reckonWhole_16 rfl (lv_at hl 2 rfl) ?_
  refine r_get hC hw rk5 in_X2_reckonWhole_5 ρ hst.1 hst.2 3 (by decide) lk_X2_reckonWhole_37 (v := .int xc) rfl dX2_reckonWhole_17 ?_
  refine r_ki hw (r_runV (rest := []) hC hw 2 (c_X3_getWord l _ _ 2 8 xc (wXl 2 (by decide)) wXc2 (wXl 8 (by decide)) wXc8) rk3 (wXl 2 (by decide)) wXc2 1 gX2_reckonWhole_X3_getWord rfl rfl rfl (by decide +kernel) ⟨Nat.le_of_ble_eq_true rfl, Nat.le_of_ble_eq_true rfl⟩ rfl hl.1 rfl (Nat.le_of_ble_eq_true rfl) dX2_reckonWhole_20 ⟨Nat.le_of_ble_eq_true rfl, Nat.le_of_ble_eq_true rfl⟩) (fun r_5 u_6 H locs h_4 hw => ?_)
  subst h_4
  refine lv_istore_n (lv' := [(3, .int (gN 8 (sA κ 2) 0 xc)), (2, .int (gN 8 (sA κ 2) 0 xb)), (0, .ref (ad 4)), (1, .ref (ad ρ))]) hx hb dX2_reckonWhole_23 rfl hl (by decide) rfl (fun ls hl => ?_)
  refine lv_aload_n hx hb dX2_reckonWhole_24 rfl (lv_at hl 2 rfl) ?_
  refine r_get hC hw rk2 in_X2_reckonWhole_2 4 (wXl 4 (by decide)) wXc4 0 (by decide) lk_X2_reckonWhole_9 (v := .ref (ad 2)) rfl dX2_reckonWhole_25 ?_
  refine lv_aload_n hx hb dX2_reckonWhole_28 rfl (lv_at hl 3 rfl) ?_
  refine r_get hC hw rk5 in_X2_reckonWhole_5 ρ hst.1 hst.2 2 (by decide) lk_X2_reckonWhole_28 (v := .int xb) rfl dX2_reckonWhole_29 ?_
  refine r_kl hw (r_runV (rest := []) hC hw 2 (c_X3_getLong l _ _ 2 9 xb (wXl 2 (by decide)) wXc2 (wXl 9 (by decide)) wXc9) rk3 (wXl 2 (by decide)) wXc2 1 gX2_reckonWhole_X3_getLong rfl rfl rfl (by decide +kernel) ⟨Nat.le_of_ble_eq_true rfl, Nat.le_of_ble_eq_true rfl⟩ rfl hl.1 rfl (Nat.le_of_ble_eq_true rfl) dX2_reckonWhole_32 ⟨Nat.le_of_ble_eq_true rfl, Nat.le_of_ble_eq_true rfl⟩) (fun r_8 u_9 H locs h_7 hw => ?_)
  subst h_7
  refine r_topv (y := .long (sJ κ 0 (aN xb))) (congrArg _ (gN_in (by assumption) (by decide))) ?_
  refine lv_lstore (lv' := [(4, .long (sJ κ 0 (aN xb))), (3, .int (gN 8 (sA κ 2) 0 xc)), (2, .int (gN 8 (sA κ 2) 0 xb)), (0, .ref (ad 4)), (1, .ref (ad ρ))]) hx hb dX2_reckonWhole_35 hl (by decide) rfl (fun ls hl => ?_)
  refine lv_aload_n hx hb dX2_reckonWhole_37 rfl (lv_at hl 3 rfl) ?_
  refine r_get hC hw rk2 in_X2_reckonWhole_2 4 (wXl 4 (by decide)) wXc4 0 (by decide) lk_X2_reckonWhole_9 (v := .ref (ad 2)) rfl dX2_reckonWhole_38 ?_
  refine lv_aload_n hx hb dX2_reckonWhole_41 rfl (lv_at hl 4 rfl) ?_
  refine r_get hC hw rk5 in_X2_reckonWhole_5 ρ hst.1 hst.2 3 (by decide) lk_X2_reckonWhole_37 (v := .int xc) rfl dX2_reckonWhole_42 ?_
  refine r_kl hw (r_runV (rest := []) hC hw 2 (c_X3_getLong l _ _ 2 9 xc (wXl 2 (by decide)) wXc2 (wXl 9 (by decide)) wXc9) rk3 (wXl 2 (by decide)) wXc2 1 gX2_reckonWhole_X3_getLong rfl rfl rfl (by decide +kernel) ⟨Nat.le_of_ble_eq_true rfl, Nat.le_of_ble_eq_true rfl⟩ rfl hl.1 rfl (Nat.le_of_ble_eq_true rfl) dX2_reckonWhole_45 ⟨Nat.le_of_ble_eq_true rfl, Nat.le_of_ble_eq_true rfl⟩) (fun r_11 u_12 H locs h_10 hw => ?_)
  subst h_10
  refine r_topv (y := .long (sJ κ 0 (aN xc))) (congrArg _ (gN_in (by assumption) (by decide))) ?_
  refine lv_lstore (lv' := [(6, .long (sJ κ 0 (aN xc))), (4, .long (sJ κ 0 (aN xb))), (3, .int (gN 8 (sA κ 2) 0 xc)), (2, .int (gN 8 (sA κ 2) 0 xb)), (0, .ref (ad 4)), (1, .ref (ad ρ))]) hx hb dX2_reckonWhole_48 hl (by decide) rfl (fun ls hl => ?_)
  refine lv_aload_n hx hb dX2_reckonWhole_50 rfl (lv_at hl 5 rfl) ?_
  refine r_get hC hw rk5 in_X2_reckonWhole_5 ρ hst.1 hst.2 0 (by decide) lk_X2_reckonWhole_15 (v := .int 12) rfl dX2_reckonWhole_51 ?_
  refine lv_tableIn (tgt := 282) hx hb dX2_reckonWhole_54 (by decide) (by decide) (by rfl) (by decide) ?_
  refine lv_aload_n hx hb dX2_reckonWhole_282 rfl (lv_at hl 4 rfl) ?_
  refine lv_aload_n hx hb dX2_reckonWhole_283 rfl (lv_at hl 5 rfl) ?_
  refine lv_lload hx hb dX2_reckonWhole_284 (lv_at hl 1 rfl) ?_
  refine lv_lload hx hb dX2_reckonWhole_286 (lv_at hl 0 rfl) ?_
  refine r_ki hw (r_runV (rest := []) hC hw 4 (c_X2_divideLongs_12 l _ ρ xa xb xc (sJ κ 0 (aN xb)) (sJ κ 0 (aN xc)) hst hs) rk2 (wXl 4 (by decide)) wXc4 3 gX2_reckonWhole_X2_divideLongs rfl rfl rfl (by decide +kernel) ⟨Nat.le_of_ble_eq_true rfl, Nat.le_of_ble_eq_true rfl⟩ rfl hl.1 rfl (Nat.le_of_ble_eq_true rfl) dX2_reckonWhole_288 ⟨Nat.le_of_ble_eq_true rfl, Nat.le_of_ble_eq_true rfl⟩) (fun r_14 u_15 H locs h_13 hw => ?_)
  have hd2 : (r_14, u_15) = doR κ hd th 12 xa xb xc := by
    rw [h_13]
    by_cases hz : lg_cmp (sJ κ 0 (aN xc)) 0 = 0
    · rw [if_pos hz]; exact (doRf (κ := κ) (hd := hd) (th := th) (k := 12) (a := xa) (b := xb) (c := xc) (if_pos hz) (by decide)).symm
    · rw [if_neg hz]; exact (doR0 (κ := κ) (hd := hd) (th := th) (k := 12) (a := xa) (b := xb) (c := xc) (if_neg hz)).symm
  exact r_iret hC hr hlk hw u_15 rfl hd2 (Nat.le_of_ble_eq_true rfl) (Nat.le_of_ble_eq_true rfl) dX2_reckonWhole_291

set_option maxHeartbeats 4000000 in
set_option maxRecDepth 100000 in
theorem c_X2_reckonWhole_13 (l : Launch) {D : va_G} {q : Nat → ClassId} {ad : Nat → Nat} {κ : KS} {τ : TAU} (sz : Nat) (ρ : Nat) (xa xb xc hd th : Int32) (hst : stepAt q ad κ τ ρ 13 xa xb xc) (hs : okStep 13 xa xb xc) : Met l yX2_reckonWhole wsX2_reckonWhole (rmz 2 48) (va_Pc [.ref (ad 4), .ref (ad ρ)] (rPre D q (wX q ad κ τ) sz)) (va_Qi (fun (r : Int32) (u : KS) => (r, u) = doR κ hd th 13 xa xb xc) (fun (u : KS) tt => rPo D (rA (wX q ad κ τ) sz) (wX q ad u τ) tt) (rA (wX q ad κ τ) sz)) 0 0 (rA (wX q ad κ τ) sz) := by
  have hi0 : vp_in xa 4 := hs.1
  have hi1 : vp_in xb 8 := hs.2.1
  refine r_start (cc := cX2_reckonWhole) (maxL := 8) (ret := (some .int)) (by decide) rfl (Nat.le_of_ble_eq_true rfl) ?_
  intro p e s m below meth c ls hC hr hlk hnm hsz hw hl
  have hx := hC.1
  have hb := hC.2.1
  have hl : lv_has ls 8 [(0, .ref (ad 4)), (1, .ref (ad ρ))] := hl
  refine lv_aload_n hx hb dX2_reckonWhole_0 rfl (lv_at hl 0 rfl) ?_
  refine r_get hC hw rk2 in_X2_reckonWhole_2 4 (wXl 4 (by decide)) wXc4 0 (by decide) lk_X2_reckonWhole_9 (v := .ref (ad 2)) rfl dX2_reckonWhole_1 ?_
  refine lv_aload_n hx hb dX2_reckonWhole_4 rfl (lv_at hl 1 rfl) ?_
  refine r_get hC hw rk5 in_X2_reckonWhole_5 ρ hst.1 hst.2 2 (by decide) lk_X2_reckonWhole_28 (v := .int xb) rfl dX2_reckonWhole_5 ?_
  refine r_ki hw (r_runV (rest := []) hC hw 2 (c_X3_getWord l _ _ 2 8 xb (wXl 2 (by decide)) wXc2 (wXl 8 (by decide)) wXc8) rk3 (wXl 2 (by decide)) wXc2 1 gX2_reckonWhole_X3_getWord rfl rfl rfl (by decide +kernel) ⟨Nat.le_of_ble_eq_true rfl, Nat.le_of_ble_eq_true rfl⟩ rfl hl.1 rfl (Nat.le_of_ble_eq_true rfl) dX2_reckonWhole_8 ⟨Nat.le_of_ble_eq_true rfl, Nat.le_of_ble_eq_true rfl⟩) (fun r_2 u_3 H locs h_1 hw => ?_)
  subst h_1
  refine r_topv (y := .int (sA κ 2 (aN xb))) (congrArg _ (gN_in (by assumption) (by decide))) ?_
  refine lv_istore_n (lv' := [(2, .int (sA κ 2 (aN xb))), (0, .ref (ad 4)), (1, .ref (ad ρ))]) hx hb dX2_reckonWhole_11 rfl hl (by decide) rfl (fun ls hl => ?_)
  refine lv_aload_n hx hb dX2_reckonWhole_12 rfl (lv_at hl 1 rfl) ?_
  refine r_get hC hw rk2 in_X2_reckonWhole_2 4 (wXl 4 (by decide)) wXc4 0 (by decide) lk_X2_reckonWhole_9 (v := .ref (ad 2)) rfl dX2_reckonWhole_13 ?_
  refine lv_aload_n hx hb dX2_reckonWhole_16 rfl (lv_at hl 2 rfl) ?_
  refine r_get hC hw rk5 in_X2_reckonWhole_5 ρ hst.1 hst.2 3 (by decide) lk_X2_reckonWhole_37 (v := .int xc) rfl dX2_reckonWhole_17 ?_
  refine r_ki hw (r_runV (rest := []) hC hw 2 (c_X3_getWord l _ _ 2 8 xc (wXl 2 (by decide)) wXc2 (wXl 8 (by decide)) wXc8) rk3 (wXl 2 (by decide)) wXc2 1 gX2_reckonWhole_X3_getWord rfl rfl rfl (by decide +kernel) ⟨Nat.le_of_ble_eq_true rfl, Nat.le_of_ble_eq_true rfl⟩ rfl hl.1 rfl (Nat.le_of_ble_eq_true rfl) dX2_reckonWhole_20 ⟨Nat.le_of_ble_eq_true rfl, Nat.le_of_ble_eq_true rfl⟩) (fun r_5 u_6 H locs h_4 hw => ?_)
  subst h_4
  refine lv_istore_n (lv' := [(3, .int (gN 8 (sA κ 2) 0 xc)), (2, .int (sA κ 2 (aN xb))), (0, .ref (ad 4)), (1, .ref (ad ρ))]) hx hb dX2_reckonWhole_23 rfl hl (by decide) rfl (fun ls hl => ?_)
  refine lv_aload_n hx hb dX2_reckonWhole_24 rfl (lv_at hl 2 rfl) ?_
  refine r_get hC hw rk2 in_X2_reckonWhole_2 4 (wXl 4 (by decide)) wXc4 0 (by decide) lk_X2_reckonWhole_9 (v := .ref (ad 2)) rfl dX2_reckonWhole_25 ?_
  refine lv_aload_n hx hb dX2_reckonWhole_28 rfl (lv_at hl 3 rfl) ?_
  refine r_get hC hw rk5 in_X2_reckonWhole_5 ρ hst.1 hst.2 2 (by decide) lk_X2_reckonWhole_28 (v := .int xb) rfl dX2_reckonWhole_29 ?_
  refine r_kl hw (r_runV (rest := []) hC hw 2 (c_X3_getLong l _ _ 2 9 xb (wXl 2 (by decide)) wXc2 (wXl 9 (by decide)) wXc9) rk3 (wXl 2 (by decide)) wXc2 1 gX2_reckonWhole_X3_getLong rfl rfl rfl (by decide +kernel) ⟨Nat.le_of_ble_eq_true rfl, Nat.le_of_ble_eq_true rfl⟩ rfl hl.1 rfl (Nat.le_of_ble_eq_true rfl) dX2_reckonWhole_32 ⟨Nat.le_of_ble_eq_true rfl, Nat.le_of_ble_eq_true rfl⟩) (fun r_8 u_9 H locs h_7 hw => ?_)
  subst h_7
  refine lv_lstore (lv' := [(4, .long (gN 4 (sJ κ 0) 0 xb)), (3, .int (gN 8 (sA κ 2) 0 xc)), (2, .int (sA κ 2 (aN xb))), (0, .ref (ad 4)), (1, .ref (ad ρ))]) hx hb dX2_reckonWhole_35 hl (by decide) rfl (fun ls hl => ?_)
  refine lv_aload_n hx hb dX2_reckonWhole_37 rfl (lv_at hl 3 rfl) ?_
  refine r_get hC hw rk2 in_X2_reckonWhole_2 4 (wXl 4 (by decide)) wXc4 0 (by decide) lk_X2_reckonWhole_9 (v := .ref (ad 2)) rfl dX2_reckonWhole_38 ?_
  refine lv_aload_n hx hb dX2_reckonWhole_41 rfl (lv_at hl 4 rfl) ?_
  refine r_get hC hw rk5 in_X2_reckonWhole_5 ρ hst.1 hst.2 3 (by decide) lk_X2_reckonWhole_37 (v := .int xc) rfl dX2_reckonWhole_42 ?_
  refine r_kl hw (r_runV (rest := []) hC hw 2 (c_X3_getLong l _ _ 2 9 xc (wXl 2 (by decide)) wXc2 (wXl 9 (by decide)) wXc9) rk3 (wXl 2 (by decide)) wXc2 1 gX2_reckonWhole_X3_getLong rfl rfl rfl (by decide +kernel) ⟨Nat.le_of_ble_eq_true rfl, Nat.le_of_ble_eq_true rfl⟩ rfl hl.1 rfl (Nat.le_of_ble_eq_true rfl) dX2_reckonWhole_45 ⟨Nat.le_of_ble_eq_true rfl, Nat.le_of_ble_eq_true rfl⟩) (fun r_11 u_12 H locs h_10 hw => ?_)
  subst h_10
  refine lv_lstore (lv' := [(6, .long (gN 4 (sJ κ 0) 0 xc)), (4, .long (gN 4 (sJ κ 0) 0 xb)), (3, .int (gN 8 (sA κ 2) 0 xc)), (2, .int (sA κ 2 (aN xb))), (0, .ref (ad 4)), (1, .ref (ad ρ))]) hx hb dX2_reckonWhole_48 hl (by decide) rfl (fun ls hl => ?_)
  refine lv_aload_n hx hb dX2_reckonWhole_50 rfl (lv_at hl 5 rfl) ?_
  refine r_get hC hw rk5 in_X2_reckonWhole_5 ρ hst.1 hst.2 0 (by decide) lk_X2_reckonWhole_15 (v := .int 13) rfl dX2_reckonWhole_51 ?_
  refine lv_tableIn (tgt := 292) hx hb dX2_reckonWhole_54 (by decide) (by decide) (by rfl) (by decide) ?_
  refine lv_aload_n hx hb dX2_reckonWhole_292 rfl (lv_at hl 4 rfl) ?_
  refine r_get hC hw rk2 in_X2_reckonWhole_2 4 (wXl 4 (by decide)) wXc4 0 (by decide) lk_X2_reckonWhole_9 (v := .ref (ad 2)) rfl dX2_reckonWhole_293 ?_
  refine lv_aload_n hx hb dX2_reckonWhole_296 rfl (lv_at hl 5 rfl) ?_
  refine r_get hC hw rk5 in_X2_reckonWhole_5 ρ hst.1 hst.2 1 (by decide) lk_X2_reckonWhole_44 (v := .int xa) rfl dX2_reckonWhole_297 ?_
  refine lv_iload_n hx hb dX2_reckonWhole_300 rfl (lv_at hl 3 rfl) ?_
  refine lv_i2l (v := (sA κ 2 (aN xb)).toInt64) hx hb dX2_reckonWhole_301 rfl ?_
  refine r_kv hw (r_runV (rest := []) hC hw 2 (c_X3_setLong l _ _ 2 9 xa ((sA κ 2 (aN xb)).toInt64) (by assumption) (wXl 2 (by decide)) wXc2 (wXl 9 (by decide)) wXc9) rk3 (wXl 2 (by decide)) wXc2 2 gX2_reckonWhole_X3_setLong rfl rfl rfl (by decide +kernel) ⟨Nat.le_of_ble_eq_true rfl, Nat.le_of_ble_eq_true rfl⟩ rfl hl.1 rfl (Nat.le_of_ble_eq_true rfl) dX2_reckonWhole_302 ⟨Nat.le_of_ble_eq_true rfl, Nat.le_of_ble_eq_true rfl⟩) (fun u_15 H locs h_13 hw => ?_)
  replace hw := xS_longs hw
  refine lv_goto (tgt := 322) hx hb dX2_reckonWhole_305 (by decide) ?_
  refine lv_iconst (v := 0) hx hb dX2_reckonWhole_322 (by decide) ?_
  exact r_iret hC hr hlk hw (uJ κ 0 (aN xa) ((sA κ 2 (aN xb)).toInt64)) rfl (doR0 (κ := κ) (hd := hd) (th := th) (k := 13) (a := xa) (b := xb) (c := xc) rfl).symm (Nat.le_of_ble_eq_true rfl) (Nat.le_of_ble_eq_true rfl) dX2_reckonWhole_323

set_option maxHeartbeats 4000000 in
set_option maxRecDepth 100000 in
theorem c_X2_reckonWhole_14 (l : Launch) {D : va_G} {q : Nat → ClassId} {ad : Nat → Nat} {κ : KS} {τ : TAU} (sz : Nat) (ρ : Nat) (xa xb xc hd th : Int32) (hst : stepAt q ad κ τ ρ 14 xa xb xc) (hs : okStep 14 xa xb xc) : Met l yX2_reckonWhole wsX2_reckonWhole (rmz 2 48) (va_Pc [.ref (ad 4), .ref (ad ρ)] (rPre D q (wX q ad κ τ) sz)) (va_Qi (fun (r : Int32) (u : KS) => (r, u) = doR κ hd th 14 xa xb xc) (fun (u : KS) tt => rPo D (rA (wX q ad κ τ) sz) (wX q ad u τ) tt) (rA (wX q ad κ τ) sz)) 0 0 (rA (wX q ad κ τ) sz) := by
  have hi0 : vp_in xa 8 := hs.1
  have hi1 : vp_in xb 4 := hs.2.1
  refine r_start (cc := cX2_reckonWhole) (maxL := 8) (ret := (some .int)) (by decide) rfl (Nat.le_of_ble_eq_true rfl) ?_
  intro p e s m below meth c ls hC hr hlk hnm hsz hw hl
  have hx := hC.1
  have hb := hC.2.1
  have hl : lv_has ls 8 [(0, .ref (ad 4)), (1, .ref (ad ρ))] := hl
  refine lv_aload_n hx hb dX2_reckonWhole_0 rfl (lv_at hl 0 rfl) ?_
  refine r_get hC hw rk2 in_X2_reckonWhole_2 4 (wXl 4 (by decide)) wXc4 0 (by decide) lk_X2_reckonWhole_9 (v := .ref (ad 2)) rfl dX2_reckonWhole_1 ?_
  refine lv_aload_n hx hb dX2_reckonWhole_4 rfl (lv_at hl 1 rfl) ?_
  refine r_get hC hw rk5 in_X2_reckonWhole_5 ρ hst.1 hst.2 2 (by decide) lk_X2_reckonWhole_28 (v := .int xb) rfl dX2_reckonWhole_5 ?_
  refine r_ki hw (r_runV (rest := []) hC hw 2 (c_X3_getWord l _ _ 2 8 xb (wXl 2 (by decide)) wXc2 (wXl 8 (by decide)) wXc8) rk3 (wXl 2 (by decide)) wXc2 1 gX2_reckonWhole_X3_getWord rfl rfl rfl (by decide +kernel) ⟨Nat.le_of_ble_eq_true rfl, Nat.le_of_ble_eq_true rfl⟩ rfl hl.1 rfl (Nat.le_of_ble_eq_true rfl) dX2_reckonWhole_8 ⟨Nat.le_of_ble_eq_true rfl, Nat.le_of_ble_eq_true rfl⟩) (fun r_2 u_3 H locs h_1 hw => ?_)
  subst h_1
  refine lv_istore_n (lv' := [(2, .int (gN 8 (sA κ 2) 0 xb)), (0, .ref (ad 4)), (1, .ref (ad ρ))]) hx hb dX2_reckonWhole_11 rfl hl (by decide) rfl (fun ls hl => ?_)
  refine lv_aload_n hx hb dX2_reckonWhole_12 rfl (lv_at hl 1 rfl) ?_
  refine r_get hC hw rk2 in_X2_reckonWhole_2 4 (wXl 4 (by decide)) wXc4 0 (by decide) lk_X2_reckonWhole_9 (v := .ref (ad 2)) rfl dX2_reckonWhole_13 ?_
  refine lv_aload_n hx hb dX2_reckonWhole_16 rfl (lv_at hl 2 rfl) ?_
  refine r_get hC hw rk5 in_X2_reckonWhole_5 ρ hst.1 hst.2 3 (by decide) lk_X2_reckonWhole_37 (v := .int xc) rfl dX2_reckonWhole_17 ?_
  refine r_ki hw (r_runV (rest := []) hC hw 2 (c_X3_getWord l _ _ 2 8 xc (wXl 2 (by decide)) wXc2 (wXl 8 (by decide)) wXc8) rk3 (wXl 2 (by decide)) wXc2 1 gX2_reckonWhole_X3_getWord rfl rfl rfl (by decide +kernel) ⟨Nat.le_of_ble_eq_true rfl, Nat.le_of_ble_eq_true rfl⟩ rfl hl.1 rfl (Nat.le_of_ble_eq_true rfl) dX2_reckonWhole_20 ⟨Nat.le_of_ble_eq_true rfl, Nat.le_of_ble_eq_true rfl⟩) (fun r_5 u_6 H locs h_4 hw => ?_)
  subst h_4
  refine lv_istore_n (lv' := [(3, .int (gN 8 (sA κ 2) 0 xc)), (2, .int (gN 8 (sA κ 2) 0 xb)), (0, .ref (ad 4)), (1, .ref (ad ρ))]) hx hb dX2_reckonWhole_23 rfl hl (by decide) rfl (fun ls hl => ?_)
  refine lv_aload_n hx hb dX2_reckonWhole_24 rfl (lv_at hl 2 rfl) ?_
  refine r_get hC hw rk2 in_X2_reckonWhole_2 4 (wXl 4 (by decide)) wXc4 0 (by decide) lk_X2_reckonWhole_9 (v := .ref (ad 2)) rfl dX2_reckonWhole_25 ?_
  refine lv_aload_n hx hb dX2_reckonWhole_28 rfl (lv_at hl 3 rfl) ?_
  refine r_get hC hw rk5 in_X2_reckonWhole_5 ρ hst.1 hst.2 2 (by decide) lk_X2_reckonWhole_28 (v := .int xb) rfl dX2_reckonWhole_29 ?_
  refine r_kl hw (r_runV (rest := []) hC hw 2 (c_X3_getLong l _ _ 2 9 xb (wXl 2 (by decide)) wXc2 (wXl 9 (by decide)) wXc9) rk3 (wXl 2 (by decide)) wXc2 1 gX2_reckonWhole_X3_getLong rfl rfl rfl (by decide +kernel) ⟨Nat.le_of_ble_eq_true rfl, Nat.le_of_ble_eq_true rfl⟩ rfl hl.1 rfl (Nat.le_of_ble_eq_true rfl) dX2_reckonWhole_32 ⟨Nat.le_of_ble_eq_true rfl, Nat.le_of_ble_eq_true rfl⟩) (fun r_8 u_9 H locs h_7 hw => ?_)
  subst h_7
  refine r_topv (y := .long (sJ κ 0 (aN xb))) (congrArg _ (gN_in (by assumption) (by decide))) ?_
  refine lv_lstore (lv' := [(4, .long (sJ κ 0 (aN xb))), (3, .int (gN 8 (sA κ 2) 0 xc)), (2, .int (gN 8 (sA κ 2) 0 xb)), (0, .ref (ad 4)), (1, .ref (ad ρ))]) hx hb dX2_reckonWhole_35 hl (by decide) rfl (fun ls hl => ?_)
  refine lv_aload_n hx hb dX2_reckonWhole_37 rfl (lv_at hl 3 rfl) ?_
  refine r_get hC hw rk2 in_X2_reckonWhole_2 4 (wXl 4 (by decide)) wXc4 0 (by decide) lk_X2_reckonWhole_9 (v := .ref (ad 2)) rfl dX2_reckonWhole_38 ?_
  refine lv_aload_n hx hb dX2_reckonWhole_41 rfl (lv_at hl 4 rfl) ?_
  refine r_get hC hw rk5 in_X2_reckonWhole_5 ρ hst.1 hst.2 3 (by decide) lk_X2_reckonWhole_37 (v := .int xc) rfl dX2_reckonWhole_42 ?_
  refine r_kl hw (r_runV (rest := []) hC hw 2 (c_X3_getLong l _ _ 2 9 xc (wXl 2 (by decide)) wXc2 (wXl 9 (by decide)) wXc9) rk3 (wXl 2 (by decide)) wXc2 1 gX2_reckonWhole_X3_getLong rfl rfl rfl (by decide +kernel) ⟨Nat.le_of_ble_eq_true rfl, Nat.le_of_ble_eq_true rfl⟩ rfl hl.1 rfl (Nat.le_of_ble_eq_true rfl) dX2_reckonWhole_45 ⟨Nat.le_of_ble_eq_true rfl, Nat.le_of_ble_eq_true rfl⟩) (fun r_11 u_12 H locs h_10 hw => ?_)
  subst h_10
  refine lv_lstore (lv' := [(6, .long (gN 4 (sJ κ 0) 0 xc)), (4, .long (sJ κ 0 (aN xb))), (3, .int (gN 8 (sA κ 2) 0 xc)), (2, .int (gN 8 (sA κ 2) 0 xb)), (0, .ref (ad 4)), (1, .ref (ad ρ))]) hx hb dX2_reckonWhole_48 hl (by decide) rfl (fun ls hl => ?_)
  refine lv_aload_n hx hb dX2_reckonWhole_50 rfl (lv_at hl 5 rfl) ?_
  refine r_get hC hw rk5 in_X2_reckonWhole_5 ρ hst.1 hst.2 0 (by decide) lk_X2_reckonWhole_15 (v := .int 14) rfl dX2_reckonWhole_51 ?_
  refine lv_tableOut (tgt := 308) hx hb dX2_reckonWhole_54 (by decide) (by decide) ?_
  refine lv_aload_n hx hb dX2_reckonWhole_308 rfl (lv_at hl 4 rfl) ?_
  refine r_get hC hw rk2 in_X2_reckonWhole_2 4 (wXl 4 (by decide)) wXc4 0 (by decide) lk_X2_reckonWhole_9 (v := .ref (ad 2)) rfl dX2_reckonWhole_309 ?_
  refine lv_aload_n hx hb dX2_reckonWhole_312 rfl (lv_at hl 5 rfl) ?_
  refine r_get hC hw rk5 in_X2_reckonWhole_5 ρ hst.1 hst.2 1 (by decide) lk_X2_reckonWhole_44 (v := .int xa) rfl dX2_reckonWhole_313 ?_
  refine lv_lload hx hb dX2_reckonWhole_316 (lv_at hl 1 rfl) ?_
  refine lv_l2i (v := (sJ κ 0 (aN xb)).toInt32) hx hb dX2_reckonWhole_318 rfl ?_
  refine r_kv hw (r_runV (rest := []) hC hw 2 (c_X3_setWord l _ _ 2 8 xa ((sJ κ 0 (aN xb)).toInt32) (by assumption) (wXl 2 (by decide)) wXc2 (wXl 8 (by decide)) wXc8) rk3 (wXl 2 (by decide)) wXc2 2 gX2_reckonWhole_X3_setWord rfl rfl rfl (by decide +kernel) ⟨Nat.le_of_ble_eq_true rfl, Nat.le_of_ble_eq_true rfl⟩ rfl hl.1 rfl (Nat.le_of_ble_eq_true rfl) dX2_reckonWhole_319 ⟨Nat.le_of_ble_eq_true rfl, Nat.le_of_ble_eq_true rfl⟩) (fun u_15 H locs h_13 hw => ?_)
  replace hw := xS_words hw
  refine lv_iconst (v := 0) hx hb dX2_reckonWhole_322 (by decide) ?_
  exact r_iret hC hr hlk hw (uA κ 2 (aN xa) ((sJ κ 0 (aN xb)).toInt32)) rfl (doR0 (κ := κ) (hd := hd) (th := th) (k := 14) (a := xa) (b := xb) (c := xc) rfl).symm (Nat.le_of_ble_eq_true rfl) (Nat.le_of_ble_eq_true rfl) dX2_reckonWhole_323

set_option maxHeartbeats 4000000 in
set_option maxRecDepth 100000 in
theorem c_X2_reckonBroken_15 (l : Launch) {D : va_G} {q : Nat → ClassId} {ad : Nat → Nat} {κ : KS} {τ : TAU} (sz : Nat) (ρ : Nat) (xa xb xc hd th : Int32) (hst : stepAt q ad κ τ ρ 15 xa xb xc) (hs : okStep 15 xa xb xc)(hN : nnOp κ 15 xa xb xc) : Met l yX2_reckonBroken wsX2_reckonBroken (rmz 2 54) (va_Pc [.ref (ad 4), .ref (ad ρ)] (rPre D q (wX q ad κ τ) sz)) (va_Qi (fun (r : Int32) (u : KS) => (r, u) = doR κ hd th 15 xa xb xc) (fun (u : KS) tt => rPo D (rA (wX q ad κ τ) sz) (wX q ad u τ) tt) (rA (wX q ad κ τ) sz)) 0 0 (rA (wX q ad κ τ) sz) := by
  have hi0 : vp_in xa 4 := hs.1
  have hi1 : vp_in xb 4 := hs.2.1
  refine r_start (cc := cX2_reckonBroken) (maxL := 5) (ret := (some .int)) (by decide) rfl (Nat.le_of_ble_eq_true rfl) ?_
  intro p e s m below meth c ls hC hr hlk hnm hsz hw hl
  have hx := hC.1
  have hb := hC.2.1
  have hl : lv_has ls 5 [(0, .ref (ad 4)), (1, .ref (ad ρ))] := hl
  refine lv_aload_n hx hb dX2_reckonBroken_0 rfl (lv_at hl 0 rfl) ?_
  refine r_get hC hw rk2 in_X2_reckonBroken_2 4 (wXl 4 (by decide)) wXc4 0 (by decide) lk_X2_reckonBroken_9 (v := .ref (ad 2)) rfl dX2_reckonBroken_1 ?_
  refine lv_aload_n hx hb dX2_reckonBroken_4 rfl (lv_at hl 1 rfl) ?_
  refine r_get hC hw rk5 in_X2_reckonBroken_5 ρ hst.1 hst.2 2 (by decide) lk_X2_reckonBroken_28 (v := .int xb) rfl dX2_reckonBroken_5 ?_
  refine r_kf hw (r_runV (rest := []) hC hw 2 (c_X3_getSingle l _ _ 2 10 xb (wXl 2 (by decide)) wXc2 (wXl 10 (by decide)) wXc10) rk3 (wXl 2 (by decide)) wXc2 1 gX2_reckonBroken_X3_getSingle rfl rfl rfl (by decide +kernel) ⟨Nat.le_of_ble_eq_true rfl, Nat.le_of_ble_eq_true rfl⟩ rfl hl.1 rfl (Nat.le_of_ble_eq_true rfl) dX2_reckonBroken_8 ⟨Nat.le_of_ble_eq_true rfl, Nat.le_of_ble_eq_true rfl⟩) (fun r_2 u_3 H locs h_1 hw => ?_)
  subst h_1
  refine lv_fstore_n (lv' := [(2, .float (gN 4 (sF κ) FP.fconst0 xb)), (0, .ref (ad 4)), (1, .ref (ad ρ))]) hx hb dX2_reckonBroken_11 rfl hl (by decide) rfl (fun ls hl => ?_)
  refine lv_aload_n hx hb dX2_reckonBroken_12 rfl (lv_at hl 1 rfl) ?_
  refine r_get hC hw rk2 in_X2_reckonBroken_2 4 (wXl 4 (by decide)) wXc4 0 (by decide) lk_X2_reckonBroken_9 (v := .ref (ad 2)) rfl dX2_reckonBroken_13 ?_
  refine lv_aload_n hx hb dX2_reckonBroken_16 rfl (lv_at hl 2 rfl) ?_
  refine r_get hC hw rk5 in_X2_reckonBroken_5 ρ hst.1 hst.2 2 (by decide) lk_X2_reckonBroken_28 (v := .int xb) rfl dX2_reckonBroken_17 ?_
  refine r_kd hw (r_runV (rest := []) hC hw 2 (c_X3_getDouble l _ _ 2 11 xb (wXl 2 (by decide)) wXc2 (wXl 11 (by decide)) wXc11) rk3 (wXl 2 (by decide)) wXc2 1 gX2_reckonBroken_X3_getDouble rfl rfl rfl (by decide +kernel) ⟨Nat.le_of_ble_eq_true rfl, Nat.le_of_ble_eq_true rfl⟩ rfl hl.1 rfl (Nat.le_of_ble_eq_true rfl) dX2_reckonBroken_20 ⟨Nat.le_of_ble_eq_true rfl, Nat.le_of_ble_eq_true rfl⟩) (fun r_5 u_6 H locs h_4 hw => ?_)
  subst h_4
  refine lv_dstore_n (lv' := [(3, .double (gN 4 (sD κ 0) FP.dconst0 xb)), (2, .float (gN 4 (sF κ) FP.fconst0 xb)), (0, .ref (ad 4)), (1, .ref (ad ρ))]) hx hb dX2_reckonBroken_23 rfl hl (by decide) rfl (fun ls hl => ?_)
  refine lv_aload_n hx hb dX2_reckonBroken_24 rfl (lv_at hl 3 rfl) ?_
  refine r_get hC hw rk5 in_X2_reckonBroken_5 ρ hst.1 hst.2 0 (by decide) lk_X2_reckonBroken_15 (v := .int 15) rfl dX2_reckonBroken_25 ?_
  refine lv_tableIn (tgt := 88) hx hb dX2_reckonBroken_28 (by decide) (by decide) (by rfl) (by decide) ?_
  refine lv_aload_n hx hb dX2_reckonBroken_88 rfl (lv_at hl 2 rfl) ?_
  refine r_get hC hw rk2 in_X2_reckonBroken_2 4 (wXl 4 (by decide)) wXc4 0 (by decide) lk_X2_reckonBroken_9 (v := .ref (ad 2)) rfl dX2_reckonBroken_89 ?_
  refine lv_aload_n hx hb dX2_reckonBroken_92 rfl (lv_at hl 3 rfl) ?_
  refine r_get hC hw rk5 in_X2_reckonBroken_5 ρ hst.1 hst.2 1 (by decide) lk_X2_reckonBroken_44 (v := .int xa) rfl dX2_reckonBroken_93 ?_
  refine lv_aload_n hx hb dX2_reckonBroken_96 rfl (lv_at hl 2 rfl) ?_
  refine r_get hC hw rk2 in_X2_reckonBroken_2 4 (wXl 4 (by decide)) wXc4 0 (by decide) lk_X2_reckonBroken_9 (v := .ref (ad 2)) rfl dX2_reckonBroken_97 ?_
  refine lv_aload_n hx hb dX2_reckonBroken_100 rfl (lv_at hl 3 rfl) ?_
  refine r_get hC hw rk5 in_X2_reckonBroken_5 ρ hst.1 hst.2 2 (by decide) lk_X2_reckonBroken_28 (v := .int xb) rfl dX2_reckonBroken_101 ?_
  refine r_kl hw (r_runV (rest := [.int xa, .ref (ad 2)]) hC hw 2 (c_X3_getLong l _ _ 2 9 xb (wXl 2 (by decide)) wXc2 (wXl 9 (by decide)) wXc9) rk3 (wXl 2 (by decide)) wXc2 1 gX2_reckonBroken_X3_getLong rfl rfl rfl (by decide +kernel) ⟨Nat.le_of_ble_eq_true rfl, Nat.le_of_ble_eq_true rfl⟩ rfl hl.1 rfl (Nat.le_of_ble_eq_true rfl) dX2_reckonBroken_104 ⟨Nat.le_of_ble_eq_true rfl, Nat.le_of_ble_eq_true rfl⟩) (fun r_8 u_9 H locs h_7 hw => ?_)
  subst h_7
  refine r_topv (y := .long (sJ κ 0 (aN xb))) (congrArg _ (gN_in (by assumption) (by decide))) ?_
  refine lv_l2f hx hb dX2_reckonBroken_107 ?_
  refine r_kv hw (r_runV (rest := []) hC hw 2 (c_X3_setSingle l _ _ 2 10 xa (FP.l2f (sJ κ 0 (aN xb))) (by assumption) (wXl 2 (by decide)) wXc2 (wXl 10 (by decide)) wXc10) rk3 (wXl 2 (by decide)) wXc2 2 gX2_reckonBroken_X3_setSingle rfl rfl rfl (by decide +kernel) ⟨Nat.le_of_ble_eq_true rfl, Nat.le_of_ble_eq_true rfl⟩ rfl hl.1 rfl (Nat.le_of_ble_eq_true rfl) dX2_reckonBroken_108 ⟨Nat.le_of_ble_eq_true rfl, Nat.le_of_ble_eq_true rfl⟩) (fun u_12 H locs h_10 hw => ?_)
  replace hw := xS_singles hw
  refine lv_goto (tgt := 352) hx hb dX2_reckonBroken_111 (by decide) ?_
  refine lv_iconst (v := 0) hx hb dX2_reckonBroken_352 (by decide) ?_
  exact r_iret hC hr hlk hw (uF κ (aN xa) (FP.l2f (sJ κ 0 (aN xb)))) rfl (doR0 (κ := κ) (hd := hd) (th := th) (k := 15) (a := xa) (b := xb) (c := xc) rfl).symm (Nat.le_of_ble_eq_true rfl) (Nat.le_of_ble_eq_true rfl) dX2_reckonBroken_353

set_option maxHeartbeats 4000000 in
set_option maxRecDepth 100000 in
theorem c_X2_reckonBroken_16 (l : Launch) {D : va_G} {q : Nat → ClassId} {ad : Nat → Nat} {κ : KS} {τ : TAU} (sz : Nat) (ρ : Nat) (xa xb xc hd th : Int32) (hst : stepAt q ad κ τ ρ 16 xa xb xc) (hs : okStep 16 xa xb xc)(hN : nnOp κ 16 xa xb xc) : Met l yX2_reckonBroken wsX2_reckonBroken (rmz 2 54) (va_Pc [.ref (ad 4), .ref (ad ρ)] (rPre D q (wX q ad κ τ) sz)) (va_Qi (fun (r : Int32) (u : KS) => (r, u) = doR κ hd th 16 xa xb xc) (fun (u : KS) tt => rPo D (rA (wX q ad κ τ) sz) (wX q ad u τ) tt) (rA (wX q ad κ τ) sz)) 0 0 (rA (wX q ad κ τ) sz) := by
  have hi0 : vp_in xa 4 := hs.1
  have hi1 : vp_in xb 4 := hs.2.1
  refine r_start (cc := cX2_reckonBroken) (maxL := 5) (ret := (some .int)) (by decide) rfl (Nat.le_of_ble_eq_true rfl) ?_
  intro p e s m below meth c ls hC hr hlk hnm hsz hw hl
  have hx := hC.1
  have hb := hC.2.1
  have hl : lv_has ls 5 [(0, .ref (ad 4)), (1, .ref (ad ρ))] := hl
  refine lv_aload_n hx hb dX2_reckonBroken_0 rfl (lv_at hl 0 rfl) ?_
  refine r_get hC hw rk2 in_X2_reckonBroken_2 4 (wXl 4 (by decide)) wXc4 0 (by decide) lk_X2_reckonBroken_9 (v := .ref (ad 2)) rfl dX2_reckonBroken_1 ?_
  refine lv_aload_n hx hb dX2_reckonBroken_4 rfl (lv_at hl 1 rfl) ?_
  refine r_get hC hw rk5 in_X2_reckonBroken_5 ρ hst.1 hst.2 2 (by decide) lk_X2_reckonBroken_28 (v := .int xb) rfl dX2_reckonBroken_5 ?_
  refine r_kf hw (r_runV (rest := []) hC hw 2 (c_X3_getSingle l _ _ 2 10 xb (wXl 2 (by decide)) wXc2 (wXl 10 (by decide)) wXc10) rk3 (wXl 2 (by decide)) wXc2 1 gX2_reckonBroken_X3_getSingle rfl rfl rfl (by decide +kernel) ⟨Nat.le_of_ble_eq_true rfl, Nat.le_of_ble_eq_true rfl⟩ rfl hl.1 rfl (Nat.le_of_ble_eq_true rfl) dX2_reckonBroken_8 ⟨Nat.le_of_ble_eq_true rfl, Nat.le_of_ble_eq_true rfl⟩) (fun r_2 u_3 H locs h_1 hw => ?_)
  subst h_1
  refine lv_fstore_n (lv' := [(2, .float (gN 4 (sF κ) FP.fconst0 xb)), (0, .ref (ad 4)), (1, .ref (ad ρ))]) hx hb dX2_reckonBroken_11 rfl hl (by decide) rfl (fun ls hl => ?_)
  refine lv_aload_n hx hb dX2_reckonBroken_12 rfl (lv_at hl 1 rfl) ?_
  refine r_get hC hw rk2 in_X2_reckonBroken_2 4 (wXl 4 (by decide)) wXc4 0 (by decide) lk_X2_reckonBroken_9 (v := .ref (ad 2)) rfl dX2_reckonBroken_13 ?_
  refine lv_aload_n hx hb dX2_reckonBroken_16 rfl (lv_at hl 2 rfl) ?_
  refine r_get hC hw rk5 in_X2_reckonBroken_5 ρ hst.1 hst.2 2 (by decide) lk_X2_reckonBroken_28 (v := .int xb) rfl dX2_reckonBroken_17 ?_
  refine r_kd hw (r_runV (rest := []) hC hw 2 (c_X3_getDouble l _ _ 2 11 xb (wXl 2 (by decide)) wXc2 (wXl 11 (by decide)) wXc11) rk3 (wXl 2 (by decide)) wXc2 1 gX2_reckonBroken_X3_getDouble rfl rfl rfl (by decide +kernel) ⟨Nat.le_of_ble_eq_true rfl, Nat.le_of_ble_eq_true rfl⟩ rfl hl.1 rfl (Nat.le_of_ble_eq_true rfl) dX2_reckonBroken_20 ⟨Nat.le_of_ble_eq_true rfl, Nat.le_of_ble_eq_true rfl⟩) (fun r_5 u_6 H locs h_4 hw => ?_)
  subst h_4
  refine lv_dstore_n (lv' := [(3, .double (gN 4 (sD κ 0) FP.dconst0 xb)), (2, .float (gN 4 (sF κ) FP.fconst0 xb)), (0, .ref (ad 4)), (1, .ref (ad ρ))]) hx hb dX2_reckonBroken_23 rfl hl (by decide) rfl (fun ls hl => ?_)
  refine lv_aload_n hx hb dX2_reckonBroken_24 rfl (lv_at hl 3 rfl) ?_
  refine r_get hC hw rk5 in_X2_reckonBroken_5 ρ hst.1 hst.2 0 (by decide) lk_X2_reckonBroken_15 (v := .int 16) rfl dX2_reckonBroken_25 ?_
  refine lv_tableIn (tgt := 114) hx hb dX2_reckonBroken_28 (by decide) (by decide) (by rfl) (by decide) ?_
  refine lv_aload_n hx hb dX2_reckonBroken_114 rfl (lv_at hl 2 rfl) ?_
  refine r_get hC hw rk2 in_X2_reckonBroken_2 4 (wXl 4 (by decide)) wXc4 0 (by decide) lk_X2_reckonBroken_9 (v := .ref (ad 2)) rfl dX2_reckonBroken_115 ?_
  refine lv_aload_n hx hb dX2_reckonBroken_118 rfl (lv_at hl 3 rfl) ?_
  refine r_get hC hw rk5 in_X2_reckonBroken_5 ρ hst.1 hst.2 1 (by decide) lk_X2_reckonBroken_44 (v := .int xa) rfl dX2_reckonBroken_119 ?_
  refine lv_aload_n hx hb dX2_reckonBroken_122 rfl (lv_at hl 2 rfl) ?_
  refine r_get hC hw rk2 in_X2_reckonBroken_2 4 (wXl 4 (by decide)) wXc4 0 (by decide) lk_X2_reckonBroken_9 (v := .ref (ad 2)) rfl dX2_reckonBroken_123 ?_
  refine lv_aload_n hx hb dX2_reckonBroken_126 rfl (lv_at hl 3 rfl) ?_
  refine r_get hC hw rk5 in_X2_reckonBroken_5 ρ hst.1 hst.2 2 (by decide) lk_X2_reckonBroken_28 (v := .int xb) rfl dX2_reckonBroken_127 ?_
  refine r_kl hw (r_runV (rest := [.int xa, .ref (ad 2)]) hC hw 2 (c_X3_getLong l _ _ 2 9 xb (wXl 2 (by decide)) wXc2 (wXl 9 (by decide)) wXc9) rk3 (wXl 2 (by decide)) wXc2 1 gX2_reckonBroken_X3_getLong rfl rfl rfl (by decide +kernel) ⟨Nat.le_of_ble_eq_true rfl, Nat.le_of_ble_eq_true rfl⟩ rfl hl.1 rfl (Nat.le_of_ble_eq_true rfl) dX2_reckonBroken_130 ⟨Nat.le_of_ble_eq_true rfl, Nat.le_of_ble_eq_true rfl⟩) (fun r_8 u_9 H locs h_7 hw => ?_)
  subst h_7
  refine r_topv (y := .long (sJ κ 0 (aN xb))) (congrArg _ (gN_in (by assumption) (by decide))) ?_
  refine lv_l2d hx hb dX2_reckonBroken_133 ?_
  refine r_kv hw (r_runV (rest := []) hC hw 2 (c_X3_setDouble l _ _ 2 11 xa (FP.l2d (sJ κ 0 (aN xb))) (by assumption) (wXl 2 (by decide)) wXc2 (wXl 11 (by decide)) wXc11) rk3 (wXl 2 (by decide)) wXc2 2 gX2_reckonBroken_X3_setDouble rfl rfl rfl (by decide +kernel) ⟨Nat.le_of_ble_eq_true rfl, Nat.le_of_ble_eq_true rfl⟩ rfl hl.1 rfl (Nat.le_of_ble_eq_true rfl) dX2_reckonBroken_134 ⟨Nat.le_of_ble_eq_true rfl, Nat.le_of_ble_eq_true rfl⟩) (fun u_12 H locs h_10 hw => ?_)
  replace hw := xS_doubles hw
  refine lv_goto (tgt := 352) hx hb dX2_reckonBroken_137 (by decide) ?_
  refine lv_iconst (v := 0) hx hb dX2_reckonBroken_352 (by decide) ?_
  exact r_iret hC hr hlk hw (uD κ 0 (aN xa) (FP.l2d (sJ κ 0 (aN xb)))) rfl (doR0 (κ := κ) (hd := hd) (th := th) (k := 16) (a := xa) (b := xb) (c := xc) rfl).symm (Nat.le_of_ble_eq_true rfl) (Nat.le_of_ble_eq_true rfl) dX2_reckonBroken_353

set_option maxHeartbeats 4000000 in
set_option maxRecDepth 100000 in
theorem c_X2_reckonBroken_17 (l : Launch) {D : va_G} {q : Nat → ClassId} {ad : Nat → Nat} {κ : KS} {τ : TAU} (sz : Nat) (ρ : Nat) (xa xb xc hd th : Int32) (hst : stepAt q ad κ τ ρ 17 xa xb xc) (hs : okStep 17 xa xb xc)(hN : nnOp κ 17 xa xb xc) : Met l yX2_reckonBroken wsX2_reckonBroken (rmz 2 54) (va_Pc [.ref (ad 4), .ref (ad ρ)] (rPre D q (wX q ad κ τ) sz)) (va_Qi (fun (r : Int32) (u : KS) => (r, u) = doR κ hd th 17 xa xb xc) (fun (u : KS) tt => rPo D (rA (wX q ad κ τ) sz) (wX q ad u τ) tt) (rA (wX q ad κ τ) sz)) 0 0 (rA (wX q ad κ τ) sz) := by
  have hi0 : vp_in xa 4 := hs.1
  have hi1 : vp_in xb 4 := hs.2.1
  refine r_start (cc := cX2_reckonBroken) (maxL := 5) (ret := (some .int)) (by decide) rfl (Nat.le_of_ble_eq_true rfl) ?_
  intro p e s m below meth c ls hC hr hlk hnm hsz hw hl
  have hx := hC.1
  have hb := hC.2.1
  have hl : lv_has ls 5 [(0, .ref (ad 4)), (1, .ref (ad ρ))] := hl
  refine lv_aload_n hx hb dX2_reckonBroken_0 rfl (lv_at hl 0 rfl) ?_
  refine r_get hC hw rk2 in_X2_reckonBroken_2 4 (wXl 4 (by decide)) wXc4 0 (by decide) lk_X2_reckonBroken_9 (v := .ref (ad 2)) rfl dX2_reckonBroken_1 ?_
  refine lv_aload_n hx hb dX2_reckonBroken_4 rfl (lv_at hl 1 rfl) ?_
  refine r_get hC hw rk5 in_X2_reckonBroken_5 ρ hst.1 hst.2 2 (by decide) lk_X2_reckonBroken_28 (v := .int xb) rfl dX2_reckonBroken_5 ?_
  refine r_kf hw (r_runV (rest := []) hC hw 2 (c_X3_getSingle l _ _ 2 10 xb (wXl 2 (by decide)) wXc2 (wXl 10 (by decide)) wXc10) rk3 (wXl 2 (by decide)) wXc2 1 gX2_reckonBroken_X3_getSingle rfl rfl rfl (by decide +kernel) ⟨Nat.le_of_ble_eq_true rfl, Nat.le_of_ble_eq_true rfl⟩ rfl hl.1 rfl (Nat.le_of_ble_eq_true rfl) dX2_reckonBroken_8 ⟨Nat.le_of_ble_eq_true rfl, Nat.le_of_ble_eq_true rfl⟩) (fun r_2 u_3 H locs h_1 hw => ?_)
  subst h_1
  refine r_topv (y := .float (sF κ (aN xb))) (congrArg _ (gN_in (by assumption) (by decide))) ?_
  refine lv_fstore_n (lv' := [(2, .float (sF κ (aN xb))), (0, .ref (ad 4)), (1, .ref (ad ρ))]) hx hb dX2_reckonBroken_11 rfl hl (by decide) rfl (fun ls hl => ?_)
  refine lv_aload_n hx hb dX2_reckonBroken_12 rfl (lv_at hl 1 rfl) ?_
  refine r_get hC hw rk2 in_X2_reckonBroken_2 4 (wXl 4 (by decide)) wXc4 0 (by decide) lk_X2_reckonBroken_9 (v := .ref (ad 2)) rfl dX2_reckonBroken_13 ?_
  refine lv_aload_n hx hb dX2_reckonBroken_16 rfl (lv_at hl 2 rfl) ?_
  refine r_get hC hw rk5 in_X2_reckonBroken_5 ρ hst.1 hst.2 2 (by decide) lk_X2_reckonBroken_28 (v := .int xb) rfl dX2_reckonBroken_17 ?_
  refine r_kd hw (r_runV (rest := []) hC hw 2 (c_X3_getDouble l _ _ 2 11 xb (wXl 2 (by decide)) wXc2 (wXl 11 (by decide)) wXc11) rk3 (wXl 2 (by decide)) wXc2 1 gX2_reckonBroken_X3_getDouble rfl rfl rfl (by decide +kernel) ⟨Nat.le_of_ble_eq_true rfl, Nat.le_of_ble_eq_true rfl⟩ rfl hl.1 rfl (Nat.le_of_ble_eq_true rfl) dX2_reckonBroken_20 ⟨Nat.le_of_ble_eq_true rfl, Nat.le_of_ble_eq_true rfl⟩) (fun r_5 u_6 H locs h_4 hw => ?_)
  subst h_4
  refine lv_dstore_n (lv' := [(3, .double (gN 4 (sD κ 0) FP.dconst0 xb)), (2, .float (sF κ (aN xb))), (0, .ref (ad 4)), (1, .ref (ad ρ))]) hx hb dX2_reckonBroken_23 rfl hl (by decide) rfl (fun ls hl => ?_)
  refine lv_aload_n hx hb dX2_reckonBroken_24 rfl (lv_at hl 3 rfl) ?_
  refine r_get hC hw rk5 in_X2_reckonBroken_5 ρ hst.1 hst.2 0 (by decide) lk_X2_reckonBroken_15 (v := .int 17) rfl dX2_reckonBroken_25 ?_
  refine lv_tableIn (tgt := 140) hx hb dX2_reckonBroken_28 (by decide) (by decide) (by rfl) (by decide) ?_
  refine lv_aload_n hx hb dX2_reckonBroken_140 rfl (lv_at hl 2 rfl) ?_
  refine r_get hC hw rk2 in_X2_reckonBroken_2 4 (wXl 4 (by decide)) wXc4 0 (by decide) lk_X2_reckonBroken_9 (v := .ref (ad 2)) rfl dX2_reckonBroken_141 ?_
  refine lv_aload_n hx hb dX2_reckonBroken_144 rfl (lv_at hl 3 rfl) ?_
  refine r_get hC hw rk5 in_X2_reckonBroken_5 ρ hst.1 hst.2 1 (by decide) lk_X2_reckonBroken_44 (v := .int xa) rfl dX2_reckonBroken_145 ?_
  refine lv_fload_n hx hb dX2_reckonBroken_148 rfl (lv_at hl 1 rfl) ?_
  refine lv_f2l hx hb dX2_reckonBroken_149 ?_
  refine r_kv hw (r_runV (rest := []) hC hw 2 (c_X3_setLong l _ _ 2 9 xa (FP.f2l (sF κ (aN xb))) (by assumption) (wXl 2 (by decide)) wXc2 (wXl 9 (by decide)) wXc9) rk3 (wXl 2 (by decide)) wXc2 2 gX2_reckonBroken_X3_setLong rfl rfl rfl (by decide +kernel) ⟨Nat.le_of_ble_eq_true rfl, Nat.le_of_ble_eq_true rfl⟩ rfl hl.1 rfl (Nat.le_of_ble_eq_true rfl) dX2_reckonBroken_150 ⟨Nat.le_of_ble_eq_true rfl, Nat.le_of_ble_eq_true rfl⟩) (fun u_9 H locs h_7 hw => ?_)
  replace hw := xS_longs hw
  refine lv_goto (tgt := 352) hx hb dX2_reckonBroken_153 (by decide) ?_
  refine lv_iconst (v := 0) hx hb dX2_reckonBroken_352 (by decide) ?_
  exact r_iret hC hr hlk hw (uJ κ 0 (aN xa) (FP.f2l (sF κ (aN xb)))) rfl (doR0 (κ := κ) (hd := hd) (th := th) (k := 17) (a := xa) (b := xb) (c := xc) rfl).symm (Nat.le_of_ble_eq_true rfl) (Nat.le_of_ble_eq_true rfl) dX2_reckonBroken_353

set_option maxHeartbeats 4000000 in
set_option maxRecDepth 100000 in
theorem c_X2_reckonBroken_18 (l : Launch) {D : va_G} {q : Nat → ClassId} {ad : Nat → Nat} {κ : KS} {τ : TAU} (sz : Nat) (ρ : Nat) (xa xb xc hd th : Int32) (hst : stepAt q ad κ τ ρ 18 xa xb xc) (hs : okStep 18 xa xb xc)(hN : nnOp κ 18 xa xb xc) : Met l yX2_reckonBroken wsX2_reckonBroken (rmz 2 54) (va_Pc [.ref (ad 4), .ref (ad ρ)] (rPre D q (wX q ad κ τ) sz)) (va_Qi (fun (r : Int32) (u : KS) => (r, u) = doR κ hd th 18 xa xb xc) (fun (u : KS) tt => rPo D (rA (wX q ad κ τ) sz) (wX q ad u τ) tt) (rA (wX q ad κ τ) sz)) 0 0 (rA (wX q ad κ τ) sz) := by
  have hi0 : vp_in xa 8 := hs.1
  have hi1 : vp_in xb 4 := hs.2.1
  refine r_start (cc := cX2_reckonBroken) (maxL := 5) (ret := (some .int)) (by decide) rfl (Nat.le_of_ble_eq_true rfl) ?_
  intro p e s m below meth c ls hC hr hlk hnm hsz hw hl
  have hx := hC.1
  have hb := hC.2.1
  have hl : lv_has ls 5 [(0, .ref (ad 4)), (1, .ref (ad ρ))] := hl
  refine lv_aload_n hx hb dX2_reckonBroken_0 rfl (lv_at hl 0 rfl) ?_
  refine r_get hC hw rk2 in_X2_reckonBroken_2 4 (wXl 4 (by decide)) wXc4 0 (by decide) lk_X2_reckonBroken_9 (v := .ref (ad 2)) rfl dX2_reckonBroken_1 ?_
  refine lv_aload_n hx hb dX2_reckonBroken_4 rfl (lv_at hl 1 rfl) ?_
  refine r_get hC hw rk5 in_X2_reckonBroken_5 ρ hst.1 hst.2 2 (by decide) lk_X2_reckonBroken_28 (v := .int xb) rfl dX2_reckonBroken_5 ?_
  refine r_kf hw (r_runV (rest := []) hC hw 2 (c_X3_getSingle l _ _ 2 10 xb (wXl 2 (by decide)) wXc2 (wXl 10 (by decide)) wXc10) rk3 (wXl 2 (by decide)) wXc2 1 gX2_reckonBroken_X3_getSingle rfl rfl rfl (by decide +kernel) ⟨Nat.le_of_ble_eq_true rfl, Nat.le_of_ble_eq_true rfl⟩ rfl hl.1 rfl (Nat.le_of_ble_eq_true rfl) dX2_reckonBroken_8 ⟨Nat.le_of_ble_eq_true rfl, Nat.le_of_ble_eq_true rfl⟩) (fun r_2 u_3 H locs h_1 hw => ?_)
  subst h_1
  refine lv_fstore_n (lv' := [(2, .float (gN 4 (sF κ) FP.fconst0 xb)), (0, .ref (ad 4)), (1, .ref (ad ρ))]) hx hb dX2_reckonBroken_11 rfl hl (by decide) rfl (fun ls hl => ?_)
  refine lv_aload_n hx hb dX2_reckonBroken_12 rfl (lv_at hl 1 rfl) ?_
  refine r_get hC hw rk2 in_X2_reckonBroken_2 4 (wXl 4 (by decide)) wXc4 0 (by decide) lk_X2_reckonBroken_9 (v := .ref (ad 2)) rfl dX2_reckonBroken_13 ?_
  refine lv_aload_n hx hb dX2_reckonBroken_16 rfl (lv_at hl 2 rfl) ?_
  refine r_get hC hw rk5 in_X2_reckonBroken_5 ρ hst.1 hst.2 2 (by decide) lk_X2_reckonBroken_28 (v := .int xb) rfl dX2_reckonBroken_17 ?_
  refine r_kd hw (r_runV (rest := []) hC hw 2 (c_X3_getDouble l _ _ 2 11 xb (wXl 2 (by decide)) wXc2 (wXl 11 (by decide)) wXc11) rk3 (wXl 2 (by decide)) wXc2 1 gX2_reckonBroken_X3_getDouble rfl rfl rfl (by decide +kernel) ⟨Nat.le_of_ble_eq_true rfl, Nat.le_of_ble_eq_true rfl⟩ rfl hl.1 rfl (Nat.le_of_ble_eq_true rfl) dX2_reckonBroken_20 ⟨Nat.le_of_ble_eq_true rfl, Nat.le_of_ble_eq_true rfl⟩) (fun r_5 u_6 H locs h_4 hw => ?_)
  subst h_4
  refine r_topv (y := .double (sD κ 0 (aN xb))) (congrArg _ (gN_in (by assumption) (by decide))) ?_
  refine lv_dstore_n (lv' := [(3, .double (sD κ 0 (aN xb))), (2, .float (gN 4 (sF κ) FP.fconst0 xb)), (0, .ref (ad 4)), (1, .ref (ad ρ))]) hx hb dX2_reckonBroken_23 rfl hl (by decide) rfl (fun ls hl => ?_)
  refine lv_aload_n hx hb dX2_reckonBroken_24 rfl (lv_at hl 3 rfl) ?_
  refine r_get hC hw rk5 in_X2_reckonBroken_5 ρ hst.1 hst.2 0 (by decide) lk_X2_reckonBroken_15 (v := .int 18) rfl dX2_reckonBroken_25 ?_
  refine lv_tableIn (tgt := 156) hx hb dX2_reckonBroken_28 (by decide) (by decide) (by rfl) (by decide) ?_
  refine lv_aload_n hx hb dX2_reckonBroken_156 rfl (lv_at hl 2 rfl) ?_
  refine r_get hC hw rk2 in_X2_reckonBroken_2 4 (wXl 4 (by decide)) wXc4 0 (by decide) lk_X2_reckonBroken_9 (v := .ref (ad 2)) rfl dX2_reckonBroken_157 ?_
  refine lv_aload_n hx hb dX2_reckonBroken_160 rfl (lv_at hl 3 rfl) ?_
  refine r_get hC hw rk5 in_X2_reckonBroken_5 ρ hst.1 hst.2 1 (by decide) lk_X2_reckonBroken_44 (v := .int xa) rfl dX2_reckonBroken_161 ?_
  refine lv_dload_n hx hb dX2_reckonBroken_164 rfl (lv_at hl 0 rfl) ?_
  refine lv_d2i hx hb dX2_reckonBroken_165 ?_
  refine r_kv hw (r_runV (rest := []) hC hw 2 (c_X3_setWord l _ _ 2 8 xa (FP.d2i (sD κ 0 (aN xb))) (by assumption) (wXl 2 (by decide)) wXc2 (wXl 8 (by decide)) wXc8) rk3 (wXl 2 (by decide)) wXc2 2 gX2_reckonBroken_X3_setWord rfl rfl rfl (by decide +kernel) ⟨Nat.le_of_ble_eq_true rfl, Nat.le_of_ble_eq_true rfl⟩ rfl hl.1 rfl (Nat.le_of_ble_eq_true rfl) dX2_reckonBroken_166 ⟨Nat.le_of_ble_eq_true rfl, Nat.le_of_ble_eq_true rfl⟩) (fun u_9 H locs h_7 hw => ?_)
  replace hw := xS_words hw
  refine lv_goto (tgt := 352) hx hb dX2_reckonBroken_169 (by decide) ?_
  refine lv_iconst (v := 0) hx hb dX2_reckonBroken_352 (by decide) ?_
  exact r_iret hC hr hlk hw (uA κ 2 (aN xa) (FP.d2i (sD κ 0 (aN xb)))) rfl (doR0 (κ := κ) (hd := hd) (th := th) (k := 18) (a := xa) (b := xb) (c := xc) rfl).symm (Nat.le_of_ble_eq_true rfl) (Nat.le_of_ble_eq_true rfl) dX2_reckonBroken_353

set_option maxHeartbeats 4000000 in
set_option maxRecDepth 100000 in
theorem c_X2_reckonBroken_19 (l : Launch) {D : va_G} {q : Nat → ClassId} {ad : Nat → Nat} {κ : KS} {τ : TAU} (sz : Nat) (ρ : Nat) (xa xb xc hd th : Int32) (hst : stepAt q ad κ τ ρ 19 xa xb xc) (hs : okStep 19 xa xb xc)(hN : nnOp κ 19 xa xb xc) : Met l yX2_reckonBroken wsX2_reckonBroken (rmz 2 54) (va_Pc [.ref (ad 4), .ref (ad ρ)] (rPre D q (wX q ad κ τ) sz)) (va_Qi (fun (r : Int32) (u : KS) => (r, u) = doR κ hd th 19 xa xb xc) (fun (u : KS) tt => rPo D (rA (wX q ad κ τ) sz) (wX q ad u τ) tt) (rA (wX q ad κ τ) sz)) 0 0 (rA (wX q ad κ τ) sz) := by
  have hi0 : vp_in xa 4 := hs.1
  have hi1 : vp_in xb 4 := hs.2.1
  refine r_start (cc := cX2_reckonBroken) (maxL := 5) (ret := (some .int)) (by decide) rfl (Nat.le_of_ble_eq_true rfl) ?_
  intro p e s m below meth c ls hC hr hlk hnm hsz hw hl
  have hx := hC.1
  have hb := hC.2.1
  have hl : lv_has ls 5 [(0, .ref (ad 4)), (1, .ref (ad ρ))] := hl
  refine lv_aload_n hx hb dX2_reckonBroken_0 rfl (lv_at hl 0 rfl) ?_
  refine r_get hC hw rk2 in_X2_reckonBroken_2 4 (wXl 4 (by decide)) wXc4 0 (by decide) lk_X2_reckonBroken_9 (v := .ref (ad 2)) rfl dX2_reckonBroken_1 ?_
  refine lv_aload_n hx hb dX2_reckonBroken_4 rfl (lv_at hl 1 rfl) ?_
  refine r_get hC hw rk5 in_X2_reckonBroken_5 ρ hst.1 hst.2 2 (by decide) lk_X2_reckonBroken_28 (v := .int xb) rfl dX2_reckonBroken_5 ?_
  refine r_kf hw (r_runV (rest := []) hC hw 2 (c_X3_getSingle l _ _ 2 10 xb (wXl 2 (by decide)) wXc2 (wXl 10 (by decide)) wXc10) rk3 (wXl 2 (by decide)) wXc2 1 gX2_reckonBroken_X3_getSingle rfl rfl rfl (by decide +kernel) ⟨Nat.le_of_ble_eq_true rfl, Nat.le_of_ble_eq_true rfl⟩ rfl hl.1 rfl (Nat.le_of_ble_eq_true rfl) dX2_reckonBroken_8 ⟨Nat.le_of_ble_eq_true rfl, Nat.le_of_ble_eq_true rfl⟩) (fun r_2 u_3 H locs h_1 hw => ?_)
  subst h_1
  refine r_topv (y := .float (sF κ (aN xb))) (congrArg _ (gN_in (by assumption) (by decide))) ?_
  refine lv_fstore_n (lv' := [(2, .float (sF κ (aN xb))), (0, .ref (ad 4)), (1, .ref (ad ρ))]) hx hb dX2_reckonBroken_11 rfl hl (by decide) rfl (fun ls hl => ?_)
  refine lv_aload_n hx hb dX2_reckonBroken_12 rfl (lv_at hl 1 rfl) ?_
  refine r_get hC hw rk2 in_X2_reckonBroken_2 4 (wXl 4 (by decide)) wXc4 0 (by decide) lk_X2_reckonBroken_9 (v := .ref (ad 2)) rfl dX2_reckonBroken_13 ?_
  refine lv_aload_n hx hb dX2_reckonBroken_16 rfl (lv_at hl 2 rfl) ?_
  refine r_get hC hw rk5 in_X2_reckonBroken_5 ρ hst.1 hst.2 2 (by decide) lk_X2_reckonBroken_28 (v := .int xb) rfl dX2_reckonBroken_17 ?_
  refine r_kd hw (r_runV (rest := []) hC hw 2 (c_X3_getDouble l _ _ 2 11 xb (wXl 2 (by decide)) wXc2 (wXl 11 (by decide)) wXc11) rk3 (wXl 2 (by decide)) wXc2 1 gX2_reckonBroken_X3_getDouble rfl rfl rfl (by decide +kernel) ⟨Nat.le_of_ble_eq_true rfl, Nat.le_of_ble_eq_true rfl⟩ rfl hl.1 rfl (Nat.le_of_ble_eq_true rfl) dX2_reckonBroken_20 ⟨Nat.le_of_ble_eq_true rfl, Nat.le_of_ble_eq_true rfl⟩) (fun r_5 u_6 H locs h_4 hw => ?_)
  subst h_4
  refine lv_dstore_n (lv' := [(3, .double (gN 4 (sD κ 0) FP.dconst0 xb)), (2, .float (sF κ (aN xb))), (0, .ref (ad 4)), (1, .ref (ad ρ))]) hx hb dX2_reckonBroken_23 rfl hl (by decide) rfl (fun ls hl => ?_)
  refine lv_aload_n hx hb dX2_reckonBroken_24 rfl (lv_at hl 3 rfl) ?_
  refine r_get hC hw rk5 in_X2_reckonBroken_5 ρ hst.1 hst.2 0 (by decide) lk_X2_reckonBroken_15 (v := .int 19) rfl dX2_reckonBroken_25 ?_
  refine lv_tableIn (tgt := 172) hx hb dX2_reckonBroken_28 (by decide) (by decide) (by rfl) (by decide) ?_
  refine lv_aload_n hx hb dX2_reckonBroken_172 rfl (lv_at hl 2 rfl) ?_
  refine r_get hC hw rk2 in_X2_reckonBroken_2 4 (wXl 4 (by decide)) wXc4 0 (by decide) lk_X2_reckonBroken_9 (v := .ref (ad 2)) rfl dX2_reckonBroken_173 ?_
  refine lv_aload_n hx hb dX2_reckonBroken_176 rfl (lv_at hl 3 rfl) ?_
  refine r_get hC hw rk5 in_X2_reckonBroken_5 ρ hst.1 hst.2 1 (by decide) lk_X2_reckonBroken_44 (v := .int xa) rfl dX2_reckonBroken_177 ?_
  refine lv_fload_n hx hb dX2_reckonBroken_180 rfl (lv_at hl 1 rfl) ?_
  refine lv_f2d hx hb dX2_reckonBroken_181 hN ?_
  refine r_kv hw (r_runV (rest := []) hC hw 2 (c_X3_setDouble l _ _ 2 11 xa (FP.f2d (sF κ (aN xb))) (by assumption) (wXl 2 (by decide)) wXc2 (wXl 11 (by decide)) wXc11) rk3 (wXl 2 (by decide)) wXc2 2 gX2_reckonBroken_X3_setDouble rfl rfl rfl (by decide +kernel) ⟨Nat.le_of_ble_eq_true rfl, Nat.le_of_ble_eq_true rfl⟩ rfl hl.1 rfl (Nat.le_of_ble_eq_true rfl) dX2_reckonBroken_182 ⟨Nat.le_of_ble_eq_true rfl, Nat.le_of_ble_eq_true rfl⟩) (fun u_9 H locs h_7 hw => ?_)
  replace hw := xS_doubles hw
  refine lv_goto (tgt := 352) hx hb dX2_reckonBroken_185 (by decide) ?_
  refine lv_iconst (v := 0) hx hb dX2_reckonBroken_352 (by decide) ?_
  exact r_iret hC hr hlk hw (uD κ 0 (aN xa) (FP.f2d (sF κ (aN xb)))) rfl (doR0 (κ := κ) (hd := hd) (th := th) (k := 19) (a := xa) (b := xb) (c := xc) rfl).symm (Nat.le_of_ble_eq_true rfl) (Nat.le_of_ble_eq_true rfl) dX2_reckonBroken_353

set_option maxHeartbeats 4000000 in
set_option maxRecDepth 100000 in
theorem c_X2_reckonBroken_20 (l : Launch) {D : va_G} {q : Nat → ClassId} {ad : Nat → Nat} {κ : KS} {τ : TAU} (sz : Nat) (ρ : Nat) (xa xb xc hd th : Int32) (hst : stepAt q ad κ τ ρ 20 xa xb xc) (hs : okStep 20 xa xb xc)(hN : nnOp κ 20 xa xb xc) : Met l yX2_reckonBroken wsX2_reckonBroken (rmz 2 54) (va_Pc [.ref (ad 4), .ref (ad ρ)] (rPre D q (wX q ad κ τ) sz)) (va_Qi (fun (r : Int32) (u : KS) => (r, u) = doR κ hd th 20 xa xb xc) (fun (u : KS) tt => rPo D (rA (wX q ad κ τ) sz) (wX q ad u τ) tt) (rA (wX q ad κ τ) sz)) 0 0 (rA (wX q ad κ τ) sz) := by
  have hi0 : vp_in xa 4 := hs.1
  have hi1 : vp_in xb 4 := hs.2.1
  refine r_start (cc := cX2_reckonBroken) (maxL := 5) (ret := (some .int)) (by decide) rfl (Nat.le_of_ble_eq_true rfl) ?_
  intro p e s m below meth c ls hC hr hlk hnm hsz hw hl
  have hx := hC.1
  have hb := hC.2.1
  have hl : lv_has ls 5 [(0, .ref (ad 4)), (1, .ref (ad ρ))] := hl
  refine lv_aload_n hx hb dX2_reckonBroken_0 rfl (lv_at hl 0 rfl) ?_
  refine r_get hC hw rk2 in_X2_reckonBroken_2 4 (wXl 4 (by decide)) wXc4 0 (by decide) lk_X2_reckonBroken_9 (v := .ref (ad 2)) rfl dX2_reckonBroken_1 ?_
  refine lv_aload_n hx hb dX2_reckonBroken_4 rfl (lv_at hl 1 rfl) ?_
  refine r_get hC hw rk5 in_X2_reckonBroken_5 ρ hst.1 hst.2 2 (by decide) lk_X2_reckonBroken_28 (v := .int xb) rfl dX2_reckonBroken_5 ?_
  refine r_kf hw (r_runV (rest := []) hC hw 2 (c_X3_getSingle l _ _ 2 10 xb (wXl 2 (by decide)) wXc2 (wXl 10 (by decide)) wXc10) rk3 (wXl 2 (by decide)) wXc2 1 gX2_reckonBroken_X3_getSingle rfl rfl rfl (by decide +kernel) ⟨Nat.le_of_ble_eq_true rfl, Nat.le_of_ble_eq_true rfl⟩ rfl hl.1 rfl (Nat.le_of_ble_eq_true rfl) dX2_reckonBroken_8 ⟨Nat.le_of_ble_eq_true rfl, Nat.le_of_ble_eq_true rfl⟩) (fun r_2 u_3 H locs h_1 hw => ?_)
  subst h_1
  refine lv_fstore_n (lv' := [(2, .float (gN 4 (sF κ) FP.fconst0 xb)), (0, .ref (ad 4)), (1, .ref (ad ρ))]) hx hb dX2_reckonBroken_11 rfl hl (by decide) rfl (fun ls hl => ?_)
  refine lv_aload_n hx hb dX2_reckonBroken_12 rfl (lv_at hl 1 rfl) ?_
  refine r_get hC hw rk2 in_X2_reckonBroken_2 4 (wXl 4 (by decide)) wXc4 0 (by decide) lk_X2_reckonBroken_9 (v := .ref (ad 2)) rfl dX2_reckonBroken_13 ?_
  refine lv_aload_n hx hb dX2_reckonBroken_16 rfl (lv_at hl 2 rfl) ?_
  refine r_get hC hw rk5 in_X2_reckonBroken_5 ρ hst.1 hst.2 2 (by decide) lk_X2_reckonBroken_28 (v := .int xb) rfl dX2_reckonBroken_17 ?_
  refine r_kd hw (r_runV (rest := []) hC hw 2 (c_X3_getDouble l _ _ 2 11 xb (wXl 2 (by decide)) wXc2 (wXl 11 (by decide)) wXc11) rk3 (wXl 2 (by decide)) wXc2 1 gX2_reckonBroken_X3_getDouble rfl rfl rfl (by decide +kernel) ⟨Nat.le_of_ble_eq_true rfl, Nat.le_of_ble_eq_true rfl⟩ rfl hl.1 rfl (Nat.le_of_ble_eq_true rfl) dX2_reckonBroken_20 ⟨Nat.le_of_ble_eq_true rfl, Nat.le_of_ble_eq_true rfl⟩) (fun r_5 u_6 H locs h_4 hw => ?_)
  subst h_4
  refine r_topv (y := .double (sD κ 0 (aN xb))) (congrArg _ (gN_in (by assumption) (by decide))) ?_
  refine lv_dstore_n (lv' := [(3, .double (sD κ 0 (aN xb))), (2, .float (gN 4 (sF κ) FP.fconst0 xb)), (0, .ref (ad 4)), (1, .ref (ad ρ))]) hx hb dX2_reckonBroken_23 rfl hl (by decide) rfl (fun ls hl => ?_)
  refine lv_aload_n hx hb dX2_reckonBroken_24 rfl (lv_at hl 3 rfl) ?_
  refine r_get hC hw rk5 in_X2_reckonBroken_5 ρ hst.1 hst.2 0 (by decide) lk_X2_reckonBroken_15 (v := .int 20) rfl dX2_reckonBroken_25 ?_
  refine lv_tableIn (tgt := 188) hx hb dX2_reckonBroken_28 (by decide) (by decide) (by rfl) (by decide) ?_
  refine lv_aload_n hx hb dX2_reckonBroken_188 rfl (lv_at hl 2 rfl) ?_
  refine r_get hC hw rk2 in_X2_reckonBroken_2 4 (wXl 4 (by decide)) wXc4 0 (by decide) lk_X2_reckonBroken_9 (v := .ref (ad 2)) rfl dX2_reckonBroken_189 ?_
  refine lv_aload_n hx hb dX2_reckonBroken_192 rfl (lv_at hl 3 rfl) ?_
  refine r_get hC hw rk5 in_X2_reckonBroken_5 ρ hst.1 hst.2 1 (by decide) lk_X2_reckonBroken_44 (v := .int xa) rfl dX2_reckonBroken_193 ?_
  refine lv_dload_n hx hb dX2_reckonBroken_196 rfl (lv_at hl 0 rfl) ?_
  refine lv_d2f hx hb dX2_reckonBroken_197 hN ?_
  refine r_kv hw (r_runV (rest := []) hC hw 2 (c_X3_setSingle l _ _ 2 10 xa (FP.d2f (sD κ 0 (aN xb))) (by assumption) (wXl 2 (by decide)) wXc2 (wXl 10 (by decide)) wXc10) rk3 (wXl 2 (by decide)) wXc2 2 gX2_reckonBroken_X3_setSingle rfl rfl rfl (by decide +kernel) ⟨Nat.le_of_ble_eq_true rfl, Nat.le_of_ble_eq_true rfl⟩ rfl hl.1 rfl (Nat.le_of_ble_eq_true rfl) dX2_reckonBroken_198 ⟨Nat.le_of_ble_eq_true rfl, Nat.le_of_ble_eq_true rfl⟩) (fun u_9 H locs h_7 hw => ?_)
  replace hw := xS_singles hw
  refine lv_goto (tgt := 352) hx hb dX2_reckonBroken_201 (by decide) ?_
  refine lv_iconst (v := 0) hx hb dX2_reckonBroken_352 (by decide) ?_
  exact r_iret hC hr hlk hw (uF κ (aN xa) (FP.d2f (sD κ 0 (aN xb)))) rfl (doR0 (κ := κ) (hd := hd) (th := th) (k := 20) (a := xa) (b := xb) (c := xc) rfl).symm (Nat.le_of_ble_eq_true rfl) (Nat.le_of_ble_eq_true rfl) dX2_reckonBroken_353

set_option maxHeartbeats 4000000 in
set_option maxRecDepth 100000 in
theorem c_X2_reckonBroken_21 (l : Launch) {D : va_G} {q : Nat → ClassId} {ad : Nat → Nat} {κ : KS} {τ : TAU} (sz : Nat) (ρ : Nat) (xa xb xc hd th : Int32) (hst : stepAt q ad κ τ ρ 21 xa xb xc) (hs : okStep 21 xa xb xc)(hN : nnOp κ 21 xa xb xc) : Met l yX2_reckonBroken wsX2_reckonBroken (rmz 2 54) (va_Pc [.ref (ad 4), .ref (ad ρ)] (rPre D q (wX q ad κ τ) sz)) (va_Qi (fun (r : Int32) (u : KS) => (r, u) = doR κ hd th 21 xa xb xc) (fun (u : KS) tt => rPo D (rA (wX q ad κ τ) sz) (wX q ad u τ) tt) (rA (wX q ad κ τ) sz)) 0 0 (rA (wX q ad κ τ) sz) := by
  have hi0 : vp_in xa 4 := hs.1
  have hi1 : vp_in xb 4 := hs.2.1
  refine r_start (cc := cX2_reckonBroken) (maxL := 5) (ret := (some .int)) (by decide) rfl (Nat.le_of_ble_eq_true rfl) ?_
  intro p e s m below meth c ls hC hr hlk hnm hsz hw hl
  have hx := hC.1
  have hb := hC.2.1
  have hl : lv_has ls 5 [(0, .ref (ad 4)), (1, .ref (ad ρ))] := hl
  refine lv_aload_n hx hb dX2_reckonBroken_0 rfl (lv_at hl 0 rfl) ?_
  refine r_get hC hw rk2 in_X2_reckonBroken_2 4 (wXl 4 (by decide)) wXc4 0 (by decide) lk_X2_reckonBroken_9 (v := .ref (ad 2)) rfl dX2_reckonBroken_1 ?_
  refine lv_aload_n hx hb dX2_reckonBroken_4 rfl (lv_at hl 1 rfl) ?_
  refine r_get hC hw rk5 in_X2_reckonBroken_5 ρ hst.1 hst.2 2 (by decide) lk_X2_reckonBroken_28 (v := .int xb) rfl dX2_reckonBroken_5 ?_
  refine r_kf hw (r_runV (rest := []) hC hw 2 (c_X3_getSingle l _ _ 2 10 xb (wXl 2 (by decide)) wXc2 (wXl 10 (by decide)) wXc10) rk3 (wXl 2 (by decide)) wXc2 1 gX2_reckonBroken_X3_getSingle rfl rfl rfl (by decide +kernel) ⟨Nat.le_of_ble_eq_true rfl, Nat.le_of_ble_eq_true rfl⟩ rfl hl.1 rfl (Nat.le_of_ble_eq_true rfl) dX2_reckonBroken_8 ⟨Nat.le_of_ble_eq_true rfl, Nat.le_of_ble_eq_true rfl⟩) (fun r_2 u_3 H locs h_1 hw => ?_)
  subst h_1
  refine r_topv (y := .float (sF κ (aN xb))) (congrArg _ (gN_in (by assumption) (by decide))) ?_
  refine lv_fstore_n (lv' := [(2, .float (sF κ (aN xb))), (0, .ref (ad 4)), (1, .ref (ad ρ))]) hx hb dX2_reckonBroken_11 rfl hl (by decide) rfl (fun ls hl => ?_)
  refine lv_aload_n hx hb dX2_reckonBroken_12 rfl (lv_at hl 1 rfl) ?_
  refine r_get hC hw rk2 in_X2_reckonBroken_2 4 (wXl 4 (by decide)) wXc4 0 (by decide) lk_X2_reckonBroken_9 (v := .ref (ad 2)) rfl dX2_reckonBroken_13 ?_
  refine lv_aload_n hx hb dX2_reckonBroken_16 rfl (lv_at hl 2 rfl) ?_
  refine r_get hC hw rk5 in_X2_reckonBroken_5 ρ hst.1 hst.2 2 (by decide) lk_X2_reckonBroken_28 (v := .int xb) rfl dX2_reckonBroken_17 ?_
  refine r_kd hw (r_runV (rest := []) hC hw 2 (c_X3_getDouble l _ _ 2 11 xb (wXl 2 (by decide)) wXc2 (wXl 11 (by decide)) wXc11) rk3 (wXl 2 (by decide)) wXc2 1 gX2_reckonBroken_X3_getDouble rfl rfl rfl (by decide +kernel) ⟨Nat.le_of_ble_eq_true rfl, Nat.le_of_ble_eq_true rfl⟩ rfl hl.1 rfl (Nat.le_of_ble_eq_true rfl) dX2_reckonBroken_20 ⟨Nat.le_of_ble_eq_true rfl, Nat.le_of_ble_eq_true rfl⟩) (fun r_5 u_6 H locs h_4 hw => ?_)
  subst h_4
  refine lv_dstore_n (lv' := [(3, .double (gN 4 (sD κ 0) FP.dconst0 xb)), (2, .float (sF κ (aN xb))), (0, .ref (ad 4)), (1, .ref (ad ρ))]) hx hb dX2_reckonBroken_23 rfl hl (by decide) rfl (fun ls hl => ?_)
  refine lv_aload_n hx hb dX2_reckonBroken_24 rfl (lv_at hl 3 rfl) ?_
  refine r_get hC hw rk5 in_X2_reckonBroken_5 ρ hst.1 hst.2 0 (by decide) lk_X2_reckonBroken_15 (v := .int 21) rfl dX2_reckonBroken_25 ?_
  refine lv_tableIn (tgt := 204) hx hb dX2_reckonBroken_28 (by decide) (by decide) (by rfl) (by decide) ?_
  refine lv_aload_n hx hb dX2_reckonBroken_204 rfl (lv_at hl 2 rfl) ?_
  refine r_get hC hw rk2 in_X2_reckonBroken_2 4 (wXl 4 (by decide)) wXc4 0 (by decide) lk_X2_reckonBroken_9 (v := .ref (ad 2)) rfl dX2_reckonBroken_205 ?_
  refine lv_aload_n hx hb dX2_reckonBroken_208 rfl (lv_at hl 3 rfl) ?_
  refine r_get hC hw rk5 in_X2_reckonBroken_5 ρ hst.1 hst.2 1 (by decide) lk_X2_reckonBroken_44 (v := .int xa) rfl dX2_reckonBroken_209 ?_
  refine lv_fload_n hx hb dX2_reckonBroken_212 rfl (lv_at hl 1 rfl) ?_
  refine lv_fconst2 hx hb dX2_reckonBroken_213 ?_
  refine lv_fdiv hx hb dX2_reckonBroken_214 hN ?_
  refine r_kv hw (r_runV (rest := []) hC hw 2 (c_X3_setSingle l _ _ 2 10 xa (FP.fdiv (sF κ (aN xb)) FP.fconst2) (by assumption) (wXl 2 (by decide)) wXc2 (wXl 10 (by decide)) wXc10) rk3 (wXl 2 (by decide)) wXc2 2 gX2_reckonBroken_X3_setSingle rfl rfl rfl (by decide +kernel) ⟨Nat.le_of_ble_eq_true rfl, Nat.le_of_ble_eq_true rfl⟩ rfl hl.1 rfl (Nat.le_of_ble_eq_true rfl) dX2_reckonBroken_215 ⟨Nat.le_of_ble_eq_true rfl, Nat.le_of_ble_eq_true rfl⟩) (fun u_9 H locs h_7 hw => ?_)
  replace hw := xS_singles hw
  refine lv_goto (tgt := 352) hx hb dX2_reckonBroken_218 (by decide) ?_
  refine lv_iconst (v := 0) hx hb dX2_reckonBroken_352 (by decide) ?_
  exact r_iret hC hr hlk hw (uF κ (aN xa) (FP.fdiv (sF κ (aN xb)) FP.fconst2)) rfl (doR0 (κ := κ) (hd := hd) (th := th) (k := 21) (a := xa) (b := xb) (c := xc) rfl).symm (Nat.le_of_ble_eq_true rfl) (Nat.le_of_ble_eq_true rfl) dX2_reckonBroken_353

set_option maxHeartbeats 4000000 in
set_option maxRecDepth 100000 in
theorem c_X2_reckonBroken_22 (l : Launch) {D : va_G} {q : Nat → ClassId} {ad : Nat → Nat} {κ : KS} {τ : TAU} (sz : Nat) (ρ : Nat) (xa xb xc hd th : Int32) (hst : stepAt q ad κ τ ρ 22 xa xb xc) (hs : okStep 22 xa xb xc)(hN : nnOp κ 22 xa xb xc) : Met l yX2_reckonBroken wsX2_reckonBroken (rmz 2 54) (va_Pc [.ref (ad 4), .ref (ad ρ)] (rPre D q (wX q ad κ τ) sz)) (va_Qi (fun (r : Int32) (u : KS) => (r, u) = doR κ hd th 22 xa xb xc) (fun (u : KS) tt => rPo D (rA (wX q ad κ τ) sz) (wX q ad u τ) tt) (rA (wX q ad κ τ) sz)) 0 0 (rA (wX q ad κ τ) sz) := by
  have hi0 : vp_in xa 4 := hs.1
  have hi1 : vp_in xb 4 := hs.2.1
  refine r_start (cc := cX2_reckonBroken) (maxL := 5) (ret := (some .int)) (by decide) rfl (Nat.le_of_ble_eq_true rfl) ?_
  intro p e s m below meth c ls hC hr hlk hnm hsz hw hl
  have hx := hC.1
  have hb := hC.2.1
  have hl : lv_has ls 5 [(0, .ref (ad 4)), (1, .ref (ad ρ))] := hl
  refine lv_aload_n hx hb dX2_reckonBroken_0 rfl (lv_at hl 0 rfl) ?_
  refine r_get hC hw rk2 in_X2_reckonBroken_2 4 (wXl 4 (by decide)) wXc4 0 (by decide) lk_X2_reckonBroken_9 (v := .ref (ad 2)) rfl dX2_reckonBroken_1 ?_
  refine lv_aload_n hx hb dX2_reckonBroken_4 rfl (lv_at hl 1 rfl) ?_
  refine r_get hC hw rk5 in_X2_reckonBroken_5 ρ hst.1 hst.2 2 (by decide) lk_X2_reckonBroken_28 (v := .int xb) rfl dX2_reckonBroken_5 ?_
  refine r_kf hw (r_runV (rest := []) hC hw 2 (c_X3_getSingle l _ _ 2 10 xb (wXl 2 (by decide)) wXc2 (wXl 10 (by decide)) wXc10) rk3 (wXl 2 (by decide)) wXc2 1 gX2_reckonBroken_X3_getSingle rfl rfl rfl (by decide +kernel) ⟨Nat.le_of_ble_eq_true rfl, Nat.le_of_ble_eq_true rfl⟩ rfl hl.1 rfl (Nat.le_of_ble_eq_true rfl) dX2_reckonBroken_8 ⟨Nat.le_of_ble_eq_true rfl, Nat.le_of_ble_eq_true rfl⟩) (fun r_2 u_3 H locs h_1 hw => ?_)
  subst h_1
  refine lv_fstore_n (lv' := [(2, .float (gN 4 (sF κ) FP.fconst0 xb)), (0, .ref (ad 4)), (1, .ref (ad ρ))]) hx hb dX2_reckonBroken_11 rfl hl (by decide) rfl (fun ls hl => ?_)
  refine lv_aload_n hx hb dX2_reckonBroken_12 rfl (lv_at hl 1 rfl) ?_
  refine r_get hC hw rk2 in_X2_reckonBroken_2 4 (wXl 4 (by decide)) wXc4 0 (by decide) lk_X2_reckonBroken_9 (v := .ref (ad 2)) rfl dX2_reckonBroken_13 ?_
  refine lv_aload_n hx hb dX2_reckonBroken_16 rfl (lv_at hl 2 rfl) ?_
  refine r_get hC hw rk5 in_X2_reckonBroken_5 ρ hst.1 hst.2 2 (by decide) lk_X2_reckonBroken_28 (v := .int xb) rfl dX2_reckonBroken_17 ?_
  refine r_kd hw (r_runV (rest := []) hC hw 2 (c_X3_getDouble l _ _ 2 11 xb (wXl 2 (by decide)) wXc2 (wXl 11 (by decide)) wXc11) rk3 (wXl 2 (by decide)) wXc2 1 gX2_reckonBroken_X3_getDouble rfl rfl rfl (by decide +kernel) ⟨Nat.le_of_ble_eq_true rfl, Nat.le_of_ble_eq_true rfl⟩ rfl hl.1 rfl (Nat.le_of_ble_eq_true rfl) dX2_reckonBroken_20 ⟨Nat.le_of_ble_eq_true rfl, Nat.le_of_ble_eq_true rfl⟩) (fun r_5 u_6 H locs h_4 hw => ?_)
  subst h_4
  refine r_topv (y := .double (sD κ 0 (aN xb))) (congrArg _ (gN_in (by assumption) (by decide))) ?_
  refine lv_dstore_n (lv' := [(3, .double (sD κ 0 (aN xb))), (2, .float (gN 4 (sF κ) FP.fconst0 xb)), (0, .ref (ad 4)), (1, .ref (ad ρ))]) hx hb dX2_reckonBroken_23 rfl hl (by decide) rfl (fun ls hl => ?_)
  refine lv_aload_n hx hb dX2_reckonBroken_24 rfl (lv_at hl 3 rfl) ?_
  refine r_get hC hw rk5 in_X2_reckonBroken_5 ρ hst.1 hst.2 0 (by decide) lk_X2_reckonBroken_15 (v := .int 22) rfl dX2_reckonBroken_25 ?_
  refine lv_tableIn (tgt := 221) hx hb dX2_reckonBroken_28 (by decide) (by decide) (by rfl) (by decide) ?_
  refine lv_aload_n hx hb dX2_reckonBroken_221 rfl (lv_at hl 2 rfl) ?_
  refine r_get hC hw rk2 in_X2_reckonBroken_2 4 (wXl 4 (by decide)) wXc4 0 (by decide) lk_X2_reckonBroken_9 (v := .ref (ad 2)) rfl dX2_reckonBroken_222 ?_
  refine lv_aload_n hx hb dX2_reckonBroken_225 rfl (lv_at hl 3 rfl) ?_
  refine r_get hC hw rk5 in_X2_reckonBroken_5 ρ hst.1 hst.2 1 (by decide) lk_X2_reckonBroken_44 (v := .int xa) rfl dX2_reckonBroken_226 ?_
  refine lv_dload_n hx hb dX2_reckonBroken_229 rfl (lv_at hl 0 rfl) ?_
  refine lv_ldc2d hx hb hC.2.2.2.1 (hC.2.2.2.2 _ lk_X2_reckonBroken_81) dX2_reckonBroken_230 ?_
  refine lv_ddiv hx hb dX2_reckonBroken_233 hN ?_
  refine r_kv hw (r_runV (rest := []) hC hw 2 (c_X3_setDouble l _ _ 2 11 xa (FP.ddiv (sD κ 0 (aN xb)) (4611686018427387904)) (by assumption) (wXl 2 (by decide)) wXc2 (wXl 11 (by decide)) wXc11) rk3 (wXl 2 (by decide)) wXc2 2 gX2_reckonBroken_X3_setDouble rfl rfl rfl (by decide +kernel) ⟨Nat.le_of_ble_eq_true rfl, Nat.le_of_ble_eq_true rfl⟩ rfl hl.1 rfl (Nat.le_of_ble_eq_true rfl) dX2_reckonBroken_234 ⟨Nat.le_of_ble_eq_true rfl, Nat.le_of_ble_eq_true rfl⟩) (fun u_9 H locs h_7 hw => ?_)
  replace hw := xS_doubles hw
  refine lv_goto (tgt := 352) hx hb dX2_reckonBroken_237 (by decide) ?_
  refine lv_iconst (v := 0) hx hb dX2_reckonBroken_352 (by decide) ?_
  exact r_iret hC hr hlk hw (uD κ 0 (aN xa) (FP.ddiv (sD κ 0 (aN xb)) (4611686018427387904))) rfl (doR0 (κ := κ) (hd := hd) (th := th) (k := 22) (a := xa) (b := xb) (c := xc) rfl).symm (Nat.le_of_ble_eq_true rfl) (Nat.le_of_ble_eq_true rfl) dX2_reckonBroken_353

set_option maxHeartbeats 4000000 in
set_option maxRecDepth 100000 in
theorem c_X2_reckonBroken_25 (l : Launch) {D : va_G} {q : Nat → ClassId} {ad : Nat → Nat} {κ : KS} {τ : TAU} (sz : Nat) (ρ : Nat) (xa xb xc hd th : Int32) (hst : stepAt q ad κ τ ρ 25 xa xb xc) (hs : okStep 25 xa xb xc)(hN : nnOp κ 25 xa xb xc) : Met l yX2_reckonBroken wsX2_reckonBroken (rmz 2 54) (va_Pc [.ref (ad 4), .ref (ad ρ)] (rPre D q (wX q ad κ τ) sz)) (va_Qi (fun (r : Int32) (u : KS) => (r, u) = doR κ hd th 25 xa xb xc) (fun (u : KS) tt => rPo D (rA (wX q ad κ τ) sz) (wX q ad u τ) tt) (rA (wX q ad κ τ) sz)) 0 0 (rA (wX q ad κ τ) sz) := by
  have hi0 : vp_in xa 8 := hs.1
  have hi1 : vp_in xb 8 := hs.2.1
  have hi2 : vp_in xc 8 := hs.2.2
  refine r_start (cc := cX2_reckonBroken) (maxL := 5) (ret := (some .int)) (by decide) rfl (Nat.le_of_ble_eq_true rfl) ?_
  intro p e s m below meth c ls hC hr hlk hnm hsz hw hl
  have hx := hC.1
  have hb := hC.2.1
  have hl : lv_has ls 5 [(0, .ref (ad 4)), (1, .ref (ad ρ))] := hl
  refine lv_aload_n hx hb dX2_reckonBroken_0 rfl (lv_at hl 0 rfl) ?_
  refine r_get hC hw rk2 in_X2_reckonBroken_2 4 (wXl 4 (by decide)) wXc4 0 (by decide) lk_X2_reckonBroken_9 (v := .ref (ad 2)) rfl dX2_reckonBroken_1 ?_
  refine lv_aload_n hx hb dX2_reckonBroken_4 rfl (lv_at hl 1 rfl) ?_
  refine r_get hC hw rk5 in_X2_reckonBroken_5 ρ hst.1 hst.2 2 (by decide) lk_X2_reckonBroken_28 (v := .int xb) rfl dX2_reckonBroken_5 ?_
  refine r_kf hw (r_runV (rest := []) hC hw 2 (c_X3_getSingle l _ _ 2 10 xb (wXl 2 (by decide)) wXc2 (wXl 10 (by decide)) wXc10) rk3 (wXl 2 (by decide)) wXc2 1 gX2_reckonBroken_X3_getSingle rfl rfl rfl (by decide +kernel) ⟨Nat.le_of_ble_eq_true rfl, Nat.le_of_ble_eq_true rfl⟩ rfl hl.1 rfl (Nat.le_of_ble_eq_true rfl) dX2_reckonBroken_8 ⟨Nat.le_of_ble_eq_true rfl, Nat.le_of_ble_eq_true rfl⟩) (fun r_2 u_3 H locs h_1 hw => ?_)
  subst h_1
  refine lv_fstore_n (lv' := [(2, .float (gN 4 (sF κ) FP.fconst0 xb)), (0, .ref (ad 4)), (1, .ref (ad ρ))]) hx hb dX2_reckonBroken_11 rfl hl (by decide) rfl (fun ls hl => ?_)
  refine lv_aload_n hx hb dX2_reckonBroken_12 rfl (lv_at hl 1 rfl) ?_
  refine r_get hC hw rk2 in_X2_reckonBroken_2 4 (wXl 4 (by decide)) wXc4 0 (by decide) lk_X2_reckonBroken_9 (v := .ref (ad 2)) rfl dX2_reckonBroken_13 ?_
  refine lv_aload_n hx hb dX2_reckonBroken_16 rfl (lv_at hl 2 rfl) ?_
  refine r_get hC hw rk5 in_X2_reckonBroken_5 ρ hst.1 hst.2 2 (by decide) lk_X2_reckonBroken_28 (v := .int xb) rfl dX2_reckonBroken_17 ?_
  refine r_kd hw (r_runV (rest := []) hC hw 2 (c_X3_getDouble l _ _ 2 11 xb (wXl 2 (by decide)) wXc2 (wXl 11 (by decide)) wXc11) rk3 (wXl 2 (by decide)) wXc2 1 gX2_reckonBroken_X3_getDouble rfl rfl rfl (by decide +kernel) ⟨Nat.le_of_ble_eq_true rfl, Nat.le_of_ble_eq_true rfl⟩ rfl hl.1 rfl (Nat.le_of_ble_eq_true rfl) dX2_reckonBroken_20 ⟨Nat.le_of_ble_eq_true rfl, Nat.le_of_ble_eq_true rfl⟩) (fun r_5 u_6 H locs h_4 hw => ?_)
  subst h_4
  refine lv_dstore_n (lv' := [(3, .double (gN 4 (sD κ 0) FP.dconst0 xb)), (2, .float (gN 4 (sF κ) FP.fconst0 xb)), (0, .ref (ad 4)), (1, .ref (ad ρ))]) hx hb dX2_reckonBroken_23 rfl hl (by decide) rfl (fun ls hl => ?_)
  refine lv_aload_n hx hb dX2_reckonBroken_24 rfl (lv_at hl 3 rfl) ?_
  refine r_get hC hw rk5 in_X2_reckonBroken_5 ρ hst.1 hst.2 0 (by decide) lk_X2_reckonBroken_15 (v := .int 25) rfl dX2_reckonBroken_25 ?_
  refine lv_tableIn (tgt := 276) hx hb dX2_reckonBroken_28 (by decide) (by decide) (by rfl) (by decide) ?_
  refine lv_aload_n hx hb dX2_reckonBroken_276 rfl (lv_at hl 2 rfl) ?_
  refine r_get hC hw rk2 in_X2_reckonBroken_2 4 (wXl 4 (by decide)) wXc4 0 (by decide) lk_X2_reckonBroken_9 (v := .ref (ad 2)) rfl dX2_reckonBroken_277 ?_
  refine lv_aload_n hx hb dX2_reckonBroken_280 rfl (lv_at hl 3 rfl) ?_
  refine r_get hC hw rk5 in_X2_reckonBroken_5 ρ hst.1 hst.2 1 (by decide) lk_X2_reckonBroken_44 (v := .int xa) rfl dX2_reckonBroken_281 ?_
  refine lv_aload_n hx hb dX2_reckonBroken_284 rfl (lv_at hl 2 rfl) ?_
  refine r_get hC hw rk2 in_X2_reckonBroken_2 4 (wXl 4 (by decide)) wXc4 0 (by decide) lk_X2_reckonBroken_9 (v := .ref (ad 2)) rfl dX2_reckonBroken_285 ?_
  refine lv_aload_n hx hb dX2_reckonBroken_288 rfl (lv_at hl 3 rfl) ?_
  refine r_get hC hw rk5 in_X2_reckonBroken_5 ρ hst.1 hst.2 2 (by decide) lk_X2_reckonBroken_28 (v := .int xb) rfl dX2_reckonBroken_289 ?_
  refine r_ki hw (r_runV (rest := [.int xa, .ref (ad 2)]) hC hw 2 (c_X3_getWord l _ _ 2 8 xb (wXl 2 (by decide)) wXc2 (wXl 8 (by decide)) wXc8) rk3 (wXl 2 (by decide)) wXc2 1 gX2_reckonBroken_X3_getWord rfl rfl rfl (by decide +kernel) ⟨Nat.le_of_ble_eq_true rfl, Nat.le_of_ble_eq_true rfl⟩ rfl hl.1 rfl (Nat.le_of_ble_eq_true rfl) dX2_reckonBroken_292 ⟨Nat.le_of_ble_eq_true rfl, Nat.le_of_ble_eq_true rfl⟩) (fun r_8 u_9 H locs h_7 hw => ?_)
  subst h_7
  refine r_topv (y := .int (sA κ 2 (aN xb))) (congrArg _ (gN_in (by assumption) (by decide))) ?_
  refine lv_aload_n hx hb dX2_reckonBroken_295 rfl (lv_at hl 2 rfl) ?_
  refine r_get hC hw rk2 in_X2_reckonBroken_2 4 (wXl 4 (by decide)) wXc4 0 (by decide) lk_X2_reckonBroken_9 (v := .ref (ad 2)) rfl dX2_reckonBroken_296 ?_
  refine lv_aload_n hx hb dX2_reckonBroken_299 rfl (lv_at hl 3 rfl) ?_
  refine r_get hC hw rk5 in_X2_reckonBroken_5 ρ hst.1 hst.2 3 (by decide) lk_X2_reckonBroken_37 (v := .int xc) rfl dX2_reckonBroken_300 ?_
  refine r_ki hw (r_runV (rest := [.int (sA κ 2 (aN xb)), .int xa, .ref (ad 2)]) hC hw 2 (c_X3_getWord l _ _ 2 8 xc (wXl 2 (by decide)) wXc2 (wXl 8 (by decide)) wXc8) rk3 (wXl 2 (by decide)) wXc2 1 gX2_reckonBroken_X3_getWord rfl rfl rfl (by decide +kernel) ⟨Nat.le_of_ble_eq_true rfl, Nat.le_of_ble_eq_true rfl⟩ rfl hl.1 rfl (Nat.le_of_ble_eq_true rfl) dX2_reckonBroken_303 ⟨Nat.le_of_ble_eq_true rfl, Nat.le_of_ble_eq_true rfl⟩) (fun r_11 u_12 H locs h_10 hw => ?_)
  subst h_10
  refine r_topv (y := .int (sA κ 2 (aN xc))) (congrArg _ (gN_in (by assumption) (by decide))) ?_
  refine lv_icmp_ge (tgt := 313) hx hb dX2_reckonBroken_306 (by decide) (fun c_13 => ?_) (fun c_13 => ?_)
  · refine lv_iconst (v := 0) hx hb dX2_reckonBroken_313 (by decide) ?_
    refine r_kv hw (r_runV (rest := []) hC hw 2 (c_X3_setWord l _ _ 2 8 xa 0 (by assumption) (wXl 2 (by decide)) wXc2 (wXl 8 (by decide)) wXc8) rk3 (wXl 2 (by decide)) wXc2 2 gX2_reckonBroken_X3_setWord rfl rfl rfl (by decide +kernel) ⟨Nat.le_of_ble_eq_true rfl, Nat.le_of_ble_eq_true rfl⟩ rfl hl.1 rfl (Nat.le_of_ble_eq_true rfl) dX2_reckonBroken_314 ⟨Nat.le_of_ble_eq_true rfl, Nat.le_of_ble_eq_true rfl⟩) (fun u_16 H locs h_14 hw => ?_)
    replace hw := xS_words hw
    refine lv_goto (tgt := 352) hx hb dX2_reckonBroken_317 (by decide) ?_
    refine lv_iconst (v := 0) hx hb dX2_reckonBroken_352 (by decide) ?_
    exact r_iret hC hr hlk hw (uA κ 2 (aN xa) 0) rfl ((congrArg (fun z => ((0 : Int32), uA κ 2 (aN xa) z)) (if_pos c_13).symm).trans (doR0 (κ := κ) (hd := hd) (th := th) (k := 25) (a := xa) (b := xb) (c := xc) rfl).symm) (Nat.le_of_ble_eq_true rfl) (Nat.le_of_ble_eq_true rfl) dX2_reckonBroken_353
  · refine lv_iconst (v := 1) hx hb dX2_reckonBroken_309 (by decide) ?_
    refine lv_goto (tgt := 314) hx hb dX2_reckonBroken_310 (by decide) ?_
    refine r_kv hw (r_runV (rest := []) hC hw 2 (c_X3_setWord l _ _ 2 8 xa 1 (by assumption) (wXl 2 (by decide)) wXc2 (wXl 8 (by decide)) wXc8) rk3 (wXl 2 (by decide)) wXc2 2 gX2_reckonBroken_X3_setWord rfl rfl rfl (by decide +kernel) ⟨Nat.le_of_ble_eq_true rfl, Nat.le_of_ble_eq_true rfl⟩ rfl hl.1 rfl (Nat.le_of_ble_eq_true rfl) dX2_reckonBroken_314 ⟨Nat.le_of_ble_eq_true rfl, Nat.le_of_ble_eq_true rfl⟩) (fun u_19 H locs h_17 hw => ?_)
    replace hw := xS_words hw
    refine lv_goto (tgt := 352) hx hb dX2_reckonBroken_317 (by decide) ?_
    refine lv_iconst (v := 0) hx hb dX2_reckonBroken_352 (by decide) ?_
    exact r_iret hC hr hlk hw (uA κ 2 (aN xa) 1) rfl ((congrArg (fun z => ((0 : Int32), uA κ 2 (aN xa) z)) (if_neg c_13).symm).trans (doR0 (κ := κ) (hd := hd) (th := th) (k := 25) (a := xa) (b := xb) (c := xc) rfl).symm) (Nat.le_of_ble_eq_true rfl) (Nat.le_of_ble_eq_true rfl) dX2_reckonBroken_353

set_option maxHeartbeats 4000000 in
set_option maxRecDepth 100000 in
theorem c_X2_reckonBroken_26 (l : Launch) {D : va_G} {q : Nat → ClassId} {ad : Nat → Nat} {κ : KS} {τ : TAU} (sz : Nat) (ρ : Nat) (xa xb xc hd th : Int32) (hst : stepAt q ad κ τ ρ 26 xa xb xc) (hs : okStep 26 xa xb xc)(hN : nnOp κ 26 xa xb xc) : Met l yX2_reckonBroken wsX2_reckonBroken (rmz 2 54) (va_Pc [.ref (ad 4), .ref (ad ρ)] (rPre D q (wX q ad κ τ) sz)) (va_Qi (fun (r : Int32) (u : KS) => (r, u) = doR κ hd th 26 xa xb xc) (fun (u : KS) tt => rPo D (rA (wX q ad κ τ) sz) (wX q ad u τ) tt) (rA (wX q ad κ τ) sz)) 0 0 (rA (wX q ad κ τ) sz) := by
  have hi0 : vp_in xa 8 := hs.1
  have hi1 : vp_in xb 4 := hs.2.1
  have hi2 : vp_in xc 4 := hs.2.2
  refine r_start (cc := cX2_reckonBroken) (maxL := 5) (ret := (some .int)) (by decide) rfl (Nat.le_of_ble_eq_true rfl) ?_
  intro p e s m below meth c ls hC hr hlk hnm hsz hw hl
  have hx := hC.1
  have hb := hC.2.1
  have hl : lv_has ls 5 [(0, .ref (ad 4)), (1, .ref (ad ρ))] := hl
  refine lv_aload_n hx hb dX2_reckonBroken_0 rfl (lv_at hl 0 rfl) ?_
  refine r_get hC hw rk2 in_X2_reckonBroken_2 4 (wXl 4 (by decide)) wXc4 0 (by decide) lk_X2_reckonBroken_9 (v := .ref (ad 2)) rfl dX2_reckonBroken_1 ?_
  refine lv_aload_n hx hb dX2_reckonBroken_4 rfl (lv_at hl 1 rfl) ?_
  refine r_get hC hw rk5 in_X2_reckonBroken_5 ρ hst.1 hst.2 2 (by decide) lk_X2_reckonBroken_28 (v := .int xb) rfl dX2_reckonBroken_5 ?_
  refine r_kf hw (r_runV (rest := []) hC hw 2 (c_X3_getSingle l _ _ 2 10 xb (wXl 2 (by decide)) wXc2 (wXl 10 (by decide)) wXc10) rk3 (wXl 2 (by decide)) wXc2 1 gX2_reckonBroken_X3_getSingle rfl rfl rfl (by decide +kernel) ⟨Nat.le_of_ble_eq_true rfl, Nat.le_of_ble_eq_true rfl⟩ rfl hl.1 rfl (Nat.le_of_ble_eq_true rfl) dX2_reckonBroken_8 ⟨Nat.le_of_ble_eq_true rfl, Nat.le_of_ble_eq_true rfl⟩) (fun r_2 u_3 H locs h_1 hw => ?_)
  subst h_1
  refine lv_fstore_n (lv' := [(2, .float (gN 4 (sF κ) FP.fconst0 xb)), (0, .ref (ad 4)), (1, .ref (ad ρ))]) hx hb dX2_reckonBroken_11 rfl hl (by decide) rfl (fun ls hl => ?_)
  refine lv_aload_n hx hb dX2_reckonBroken_12 rfl (lv_at hl 1 rfl) ?_
  refine r_get hC hw rk2 in_X2_reckonBroken_2 4 (wXl 4 (by decide)) wXc4 0 (by decide) lk_X2_reckonBroken_9 (v := .ref (ad 2)) rfl dX2_reckonBroken_13 ?_
  refine lv_aload_n hx hb dX2_reckonBroken_16 rfl (lv_at hl 2 rfl) ?_
  refine r_get hC hw rk5 in_X2_reckonBroken_5 ρ hst.1 hst.2 2 (by decide) lk_X2_reckonBroken_28 (v := .int xb) rfl dX2_reckonBroken_17 ?_
  refine r_kd hw (r_runV (rest := []) hC hw 2 (c_X3_getDouble l _ _ 2 11 xb (wXl 2 (by decide)) wXc2 (wXl 11 (by decide)) wXc11) rk3 (wXl 2 (by decide)) wXc2 1 gX2_reckonBroken_X3_getDouble rfl rfl rfl (by decide +kernel) ⟨Nat.le_of_ble_eq_true rfl, Nat.le_of_ble_eq_true rfl⟩ rfl hl.1 rfl (Nat.le_of_ble_eq_true rfl) dX2_reckonBroken_20 ⟨Nat.le_of_ble_eq_true rfl, Nat.le_of_ble_eq_true rfl⟩) (fun r_5 u_6 H locs h_4 hw => ?_)
  subst h_4
  refine r_topv (y := .double (sD κ 0 (aN xb))) (congrArg _ (gN_in (by assumption) (by decide))) ?_
  refine lv_dstore_n (lv' := [(3, .double (sD κ 0 (aN xb))), (2, .float (gN 4 (sF κ) FP.fconst0 xb)), (0, .ref (ad 4)), (1, .ref (ad ρ))]) hx hb dX2_reckonBroken_23 rfl hl (by decide) rfl (fun ls hl => ?_)
  refine lv_aload_n hx hb dX2_reckonBroken_24 rfl (lv_at hl 3 rfl) ?_
  refine r_get hC hw rk5 in_X2_reckonBroken_5 ρ hst.1 hst.2 0 (by decide) lk_X2_reckonBroken_15 (v := .int 26) rfl dX2_reckonBroken_25 ?_
  refine lv_tableOut (tgt := 320) hx hb dX2_reckonBroken_28 (by decide) (by decide) ?_
  refine lv_aload_n hx hb dX2_reckonBroken_320 rfl (lv_at hl 2 rfl) ?_
  refine r_get hC hw rk2 in_X2_reckonBroken_2 4 (wXl 4 (by decide)) wXc4 0 (by decide) lk_X2_reckonBroken_9 (v := .ref (ad 2)) rfl dX2_reckonBroken_321 ?_
  refine lv_aload_n hx hb dX2_reckonBroken_324 rfl (lv_at hl 3 rfl) ?_
  refine r_get hC hw rk5 in_X2_reckonBroken_5 ρ hst.1 hst.2 1 (by decide) lk_X2_reckonBroken_44 (v := .int xa) rfl dX2_reckonBroken_325 ?_
  refine lv_dload_n hx hb dX2_reckonBroken_328 rfl (lv_at hl 0 rfl) ?_
  refine lv_aload_n hx hb dX2_reckonBroken_329 rfl (lv_at hl 2 rfl) ?_
  refine r_get hC hw rk2 in_X2_reckonBroken_2 4 (wXl 4 (by decide)) wXc4 0 (by decide) lk_X2_reckonBroken_9 (v := .ref (ad 2)) rfl dX2_reckonBroken_330 ?_
  refine lv_aload_n hx hb dX2_reckonBroken_333 rfl (lv_at hl 3 rfl) ?_
  refine r_get hC hw rk5 in_X2_reckonBroken_5 ρ hst.1 hst.2 3 (by decide) lk_X2_reckonBroken_37 (v := .int xc) rfl dX2_reckonBroken_334 ?_
  refine r_kd hw (r_runV (rest := [.double (sD κ 0 (aN xb)), .int xa, .ref (ad 2)]) hC hw 2 (c_X3_getDouble l _ _ 2 11 xc (wXl 2 (by decide)) wXc2 (wXl 11 (by decide)) wXc11) rk3 (wXl 2 (by decide)) wXc2 1 gX2_reckonBroken_X3_getDouble rfl rfl rfl (by decide +kernel) ⟨Nat.le_of_ble_eq_true rfl, Nat.le_of_ble_eq_true rfl⟩ rfl hl.1 rfl (Nat.le_of_ble_eq_true rfl) dX2_reckonBroken_337 ⟨Nat.le_of_ble_eq_true rfl, Nat.le_of_ble_eq_true rfl⟩) (fun r_8 u_9 H locs h_7 hw => ?_)
  subst h_7
  refine r_topv (y := .double (sD κ 0 (aN xc))) (congrArg _ (gN_in (by assumption) (by decide))) ?_
  refine lv_dcmp hx hb dX2_reckonBroken_340 ?_
  refine lv_if_ge (tgt := 348) hx hb dX2_reckonBroken_341 (by decide) (fun c_10 => ?_) (fun c_10 => ?_)
  · refine lv_iconst (v := 0) hx hb dX2_reckonBroken_348 (by decide) ?_
    refine r_kv hw (r_runV (rest := []) hC hw 2 (c_X3_setWord l _ _ 2 8 xa 0 (by assumption) (wXl 2 (by decide)) wXc2 (wXl 8 (by decide)) wXc8) rk3 (wXl 2 (by decide)) wXc2 2 gX2_reckonBroken_X3_setWord rfl rfl rfl (by decide +kernel) ⟨Nat.le_of_ble_eq_true rfl, Nat.le_of_ble_eq_true rfl⟩ rfl hl.1 rfl (Nat.le_of_ble_eq_true rfl) dX2_reckonBroken_349 ⟨Nat.le_of_ble_eq_true rfl, Nat.le_of_ble_eq_true rfl⟩) (fun u_13 H locs h_11 hw => ?_)
    replace hw := xS_words hw
    refine lv_iconst (v := 0) hx hb dX2_reckonBroken_352 (by decide) ?_
    exact r_iret hC hr hlk hw (uA κ 2 (aN xa) 0) rfl ((congrArg (fun z => ((0 : Int32), uA κ 2 (aN xa) z)) (if_pos c_10).symm).trans (doR0 (κ := κ) (hd := hd) (th := th) (k := 26) (a := xa) (b := xb) (c := xc) rfl).symm) (Nat.le_of_ble_eq_true rfl) (Nat.le_of_ble_eq_true rfl) dX2_reckonBroken_353
  · refine lv_iconst (v := 1) hx hb dX2_reckonBroken_344 (by decide) ?_
    refine lv_goto (tgt := 349) hx hb dX2_reckonBroken_345 (by decide) ?_
    refine r_kv hw (r_runV (rest := []) hC hw 2 (c_X3_setWord l _ _ 2 8 xa 1 (by assumption) (wXl 2 (by decide)) wXc2 (wXl 8 (by decide)) wXc8) rk3 (wXl 2 (by decide)) wXc2 2 gX2_reckonBroken_X3_setWord rfl rfl rfl (by decide +kernel) ⟨Nat.le_of_ble_eq_true rfl, Nat.le_of_ble_eq_true rfl⟩ rfl hl.1 rfl (Nat.le_of_ble_eq_true rfl) dX2_reckonBroken_349 ⟨Nat.le_of_ble_eq_true rfl, Nat.le_of_ble_eq_true rfl⟩) (fun u_16 H locs h_14 hw => ?_)
    replace hw := xS_words hw
    refine lv_iconst (v := 0) hx hb dX2_reckonBroken_352 (by decide) ?_
    exact r_iret hC hr hlk hw (uA κ 2 (aN xa) 1) rfl ((congrArg (fun z => ((0 : Int32), uA κ 2 (aN xa) z)) (if_neg c_10).symm).trans (doR0 (κ := κ) (hd := hd) (th := th) (k := 26) (a := xa) (b := xb) (c := xc) rfl).symm) (Nat.le_of_ble_eq_true rfl) (Nat.le_of_ble_eq_true rfl) dX2_reckonBroken_353

