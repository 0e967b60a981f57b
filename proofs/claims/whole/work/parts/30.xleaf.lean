/-! the class: its small methods, over any world that holds their objects -/
def gN {α : Type} (n : Nat) (f : Nat → α) (z : α) (r : Int32) : α := if 0 ≤ r then (if nI n ≤ r then z else f (aN r)) else z
theorem inN {r : Int32} {n : Nat} (h0 : ¬ r < 0) (h1 : ¬ nI n ≤ r) : vp_in r n := by
  obtain ⟨j, hj, rfl⟩ := nI_of h0
  intro q
  rcases q with q | q
  · exact h0 q
  · rw [show (nI j).toNatClampNeg = j from nI_clamp hj] at q
    exact h1 (nI_le q hj)
theorem in_nle {r : Int32} {n : Nat} (h : vp_in r n) (hn : n < 2 ^ 31) : ¬ nI n ≤ r := by
  obtain ⟨j, hj, rfl⟩ := vp_in_of h hn
  exact nI_ge hj hn
theorem gN_in {α : Type} {n : Nat} {f : Nat → α} {z : α} {r : Int32} (h : vp_in r n) (hn : n < 2 ^ 31) : gN n f z r = f (aN r) := by
  unfold gN
  rw [if_pos (Int32.not_lt.mp (fun q => h (Or.inl q))), if_neg (in_nle h hn)]
theorem of16 {k : Int32} (h1 : ¬ k < 11) (h2 : ¬ 14 < k) : pOf k 16 := by
  obtain ⟨j, hj, e⟩ := nI_of2 (x := k) (M := 14) (n := 14) (by decide) (fun q => h1 (Int32.lt_of_lt_of_le (b := 0) q (by decide))) (Int32.not_lt.mp h2)
  subst e
  have : 11 ≤ j := by
    rcases Nat.lt_or_ge j 11 with q | q
    · exact absurd (nI_lt q (by decide)) h1
    · exact q
  have h : j = 11 ∨ j = 12 ∨ j = 13 ∨ j = 14 := by omega
  rcases h with rfl | rfl | rfl | rfl <;> decide
theorem of16a {k : Int32} (hk : vp_in k 16) (h : pOf k 16) : ¬ k < 11 := by
  obtain ⟨j, hj, rfl⟩ := vp_in_of hk (by decide)
  revert h
  have : ∀ j, j < 16 → pOf (nI j) 16 → ¬ nI j < 11 := by decide
  exact this j hj
theorem of16b {k : Int32} (hk : vp_in k 16) (h : pOf k 16) : ¬ 14 < k := by
  obtain ⟨j, hj, rfl⟩ := vp_in_of hk (by decide)
  revert h
  have : ∀ j, j < 16 → pOf (nI j) 16 → ¬ 14 < nI j := by decide
  exact this j hj
set_option maxHeartbeats 4000000 in
set_option maxRecDepth 100000 in
theorem c_X3_getWord (l : Launch) {D : va_G} {q : Nat → ClassId} (w : wT) (sz : Nat) (i j : Nat) {f : Nat → Int32} {x1 x2 x3 x4 : Value} (r0 : Int32) (hl_i : w.2.1 i) (hc_i : w.2.2 i = .inr (3, [.ref (w.1 j), x1, x2, x3, x4])) (hl_j : w.2.1 j) (hc_j : w.2.2 j = .inl (q 0, 8, .inl f))  : Met l yX3_getWord wsX3_getWord (rmz 0 0) (va_Pc [.ref (w.1 i), .int r0] (rPre D q w sz)) (va_Qi (fun (r : Int32) (u : Unit) => r = gN 8 f 0 r0) (fun (u : Unit) tt => rPo D (rA w sz) w tt) (rA w sz)) 0 0 (rA w sz) := by
  refine r_start (cc := cX3_getWord) (maxL := 2) (ret := (some .int)) (by decide) rfl (Nat.le_of_ble_eq_true rfl) ?_
  intro p e s m below meth c ls hC hr hlk hnm hsz hw hl
  have hx := hC.1
  have hb := hC.2.1
  have hl : lv_has ls 2 [(0, .ref (w.1 i)), (1, .int r0)] := hl
  refine lv_iload_n hx hb dX3_getWord_0 rfl (lv_at hl 1 rfl) ?_
  refine lv_if_lt (tgt := 22) hx hb dX3_getWord_1 (by decide) (fun c_1 => ?_) (fun c_1 => ?_)
  · refine lv_iconst (v := 0) hx hb dX3_getWord_22 (by decide) ?_
    exact r_iret hC hr hlk hw () rfl (if_neg (Int32.not_le.mpr c_1)).symm (Nat.le_of_ble_eq_true rfl) (Nat.le_of_ble_eq_true rfl) dX3_getWord_23
  · refine lv_iload_n hx hb dX3_getWord_4 rfl (lv_at hl 1 rfl) ?_
    refine lv_aload_n hx hb dX3_getWord_5 rfl (lv_at hl 0 rfl) ?_
    refine r_get hC hw rk3 in_X3_getWord_3 i hl_i hc_i 0 (by decide) lk_X3_getWord_9 (v := .ref (w.1 j)) rfl dX3_getWord_6 ?_
    refine r_alen hC hw 0 rfl j hl_j hc_j (v := nI 8) rfl dX3_getWord_9 ?_
    refine lv_icmp_ge (tgt := 22) hx hb dX3_getWord_10 (by decide) (fun c_2 => ?_) (fun c_2 => ?_)
    · refine lv_iconst (v := 0) hx hb dX3_getWord_22 (by decide) ?_
      exact r_iret hC hr hlk hw () rfl ((if_pos (Int32.not_lt.mp c_1)).trans (if_pos c_2)).symm (Nat.le_of_ble_eq_true rfl) (Nat.le_of_ble_eq_true rfl) dX3_getWord_23
    · refine lv_aload_n hx hb dX3_getWord_13 rfl (lv_at hl 0 rfl) ?_
      refine r_get hC hw rk3 in_X3_getWord_3 i hl_i hc_i 0 (by decide) lk_X3_getWord_9 (v := .ref (w.1 j)) rfl dX3_getWord_14 ?_
      refine lv_iload_n hx hb dX3_getWord_17 rfl (lv_at hl 1 rfl) ?_
      refine r_iald hC hw j hl_j hc_j (inN c_1 c_2) dX3_getWord_18 ?_
      refine lv_goto (tgt := 23) hx hb dX3_getWord_19 (by decide) ?_
      exact r_iret hC hr hlk hw () rfl ((if_pos (Int32.not_lt.mp c_1)).trans (if_neg c_2)).symm (Nat.le_of_ble_eq_true rfl) (Nat.le_of_ble_eq_true rfl) dX3_getWord_23

set_option maxHeartbeats 4000000 in
set_option maxRecDepth 100000 in
theorem c_X3_setWord (l : Launch) {D : va_G} {q : Nat → ClassId} (w : wT) (sz : Nat) (i j : Nat) {f : Nat → Int32} {x1 x2 x3 x4 : Value} (r0 : Int32) (v : Int32) (hr0 : vp_in r0 8) (hl_i : w.2.1 i) (hc_i : w.2.2 i = .inr (3, [.ref (w.1 j), x1, x2, x3, x4])) (hl_j : w.2.1 j) (hc_j : w.2.2 j = .inl (q 0, 8, .inl f))  : Met l yX3_setWord wsX3_setWord (rmz 0 0) (va_Pc [.ref (w.1 i), .int r0, .int v] (rPre D q w sz)) (va_Qv (fun (u : Unit) => True) (fun (u : Unit) tt => rPo D (rA w sz) (wU w j (.inl (q 0, 8, .inl (va_up f (aN r0) v)))) tt) (rA w sz)) 0 0 (rA w sz) := by
  refine r_start (cc := cX3_setWord) (maxL := 3) (ret := none) (by decide) rfl (Nat.le_of_ble_eq_true rfl) ?_
  intro p e s m below meth c ls hC hr hlk hnm hsz hw hl
  have hx := hC.1
  have hb := hC.2.1
  have hl : lv_has ls 3 [(0, .ref (w.1 i)), (1, .int r0), (2, .int v)] := hl
  refine lv_iload_n hx hb dX3_setWord_0 rfl (lv_at hl 1 rfl) ?_
  refine lv_if_lt (tgt := 20) hx hb dX3_setWord_1 (by decide) (fun c_ => absurd c_ (hN_toN hr0)) (fun _ => ?_)
  refine lv_iload_n hx hb dX3_setWord_4 rfl (lv_at hl 1 rfl) ?_
  refine lv_aload_n hx hb dX3_setWord_5 rfl (lv_at hl 0 rfl) ?_
  refine r_get hC hw rk3 in_X3_setWord_3 i hl_i hc_i 0 (by decide) lk_X3_setWord_9 (v := .ref (w.1 j)) rfl dX3_setWord_6 ?_
  refine r_alen hC hw 0 rfl j hl_j hc_j (v := nI 8) rfl dX3_setWord_9 ?_
  refine lv_icmp_ge (tgt := 20) hx hb dX3_setWord_10 (by decide) (fun c_ => absurd c_ (in_nle hr0 (by decide))) (fun _ => ?_)
  refine lv_aload_n hx hb dX3_setWord_13 rfl (lv_at hl 0 rfl) ?_
  refine r_get hC hw rk3 in_X3_setWord_3 i hl_i hc_i 0 (by decide) lk_X3_setWord_9 (v := .ref (w.1 j)) rfl dX3_setWord_14 ?_
  refine lv_iload_n hx hb dX3_setWord_17 rfl (lv_at hl 1 rfl) ?_
  refine lv_iload_n hx hb dX3_setWord_18 rfl (lv_at hl 2 rfl) ?_
  refine r_iast hC hw j hl_j hc_j hr0 dX3_setWord_19 (fun H locs hw => ?_)
  exact r_vret hC hr hlk hw () rfl trivial (Nat.le_of_ble_eq_true rfl) (Nat.le_of_ble_eq_true rfl) dX3_setWord_20

set_option maxHeartbeats 4000000 in
set_option maxRecDepth 100000 in
theorem c_X3_getLong (l : Launch) {D : va_G} {q : Nat → ClassId} (w : wT) (sz : Nat) (i j : Nat) {f : Nat → Int64} {x1 x2 x3 x4 : Value} (r0 : Int32) (hl_i : w.2.1 i) (hc_i : w.2.2 i = .inr (3, [x1, .ref (w.1 j), x2, x3, x4])) (hl_j : w.2.1 j) (hc_j : w.2.2 j = .inl (q 1, 4, .inr (.inl f)))  : Met l yX3_getLong wsX3_getLong (rmz 0 0) (va_Pc [.ref (w.1 i), .int r0] (rPre D q w sz)) (va_Ql (fun (r : Int64) (u : Unit) => r = gN 4 f 0 r0) (fun (u : Unit) tt => rPo D (rA w sz) w tt) (rA w sz)) 0 0 (rA w sz) := by
  refine r_start (cc := cX3_getLong) (maxL := 2) (ret := (some .long)) (by decide) rfl (Nat.le_of_ble_eq_true rfl) ?_
  intro p e s m below meth c ls hC hr hlk hnm hsz hw hl
  have hx := hC.1
  have hb := hC.2.1
  have hl : lv_has ls 2 [(0, .ref (w.1 i)), (1, .int r0)] := hl
  refine lv_iload_n hx hb dX3_getLong_0 rfl (lv_at hl 1 rfl) ?_
  refine lv_if_lt (tgt := 22) hx hb dX3_getLong_1 (by decide) (fun c_1 => ?_) (fun c_1 => ?_)
  · refine lv_lconst (v := 0) hx hb dX3_getLong_22 (by decide) ?_
    exact r_lret hC hr hlk hw () rfl (if_neg (Int32.not_le.mpr c_1)).symm (Nat.le_of_ble_eq_true rfl) (Nat.le_of_ble_eq_true rfl) dX3_getLong_23
  · refine lv_iload_n hx hb dX3_getLong_4 rfl (lv_at hl 1 rfl) ?_
    refine lv_aload_n hx hb dX3_getLong_5 rfl (lv_at hl 0 rfl) ?_
    refine r_get hC hw rk3 in_X3_getLong_3 i hl_i hc_i 1 (by decide) lk_X3_getLong_15 (v := .ref (w.1 j)) rfl dX3_getLong_6 ?_
    refine r_alen hC hw 1 rfl j hl_j hc_j (v := nI 4) rfl dX3_getLong_9 ?_
    refine lv_icmp_ge (tgt := 22) hx hb dX3_getLong_10 (by decide) (fun c_2 => ?_) (fun c_2 => ?_)
    · refine lv_lconst (v := 0) hx hb dX3_getLong_22 (by decide) ?_
      exact r_lret hC hr hlk hw () rfl ((if_pos (Int32.not_lt.mp c_1)).trans (if_pos c_2)).symm (Nat.le_of_ble_eq_true rfl) (Nat.le_of_ble_eq_true rfl) dX3_getLong_23
    · refine lv_aload_n hx hb dX3_getLong_13 rfl (lv_at hl 0 rfl) ?_
      refine r_get hC hw rk3 in_X3_getLong_3 i hl_i hc_i 1 (by decide) lk_X3_getLong_15 (v := .ref (w.1 j)) rfl dX3_getLong_14 ?_
      refine lv_iload_n hx hb dX3_getLong_17 rfl (lv_at hl 1 rfl) ?_
      refine r_lald hC hw j hl_j hc_j (inN c_1 c_2) dX3_getLong_18 ?_
      refine lv_goto (tgt := 23) hx hb dX3_getLong_19 (by decide) ?_
      exact r_lret hC hr hlk hw () rfl ((if_pos (Int32.not_lt.mp c_1)).trans (if_neg c_2)).symm (Nat.le_of_ble_eq_true rfl) (Nat.le_of_ble_eq_true rfl) dX3_getLong_23

set_option maxHeartbeats 4000000 in
set_option maxRecDepth 100000 in
theorem c_X3_setLong (l : Launch) {D : va_G} {q : Nat → ClassId} (w : wT) (sz : Nat) (i j : Nat) {f : Nat → Int64} {x1 x2 x3 x4 : Value} (r0 : Int32) (v : Int64) (hr0 : vp_in r0 4) (hl_i : w.2.1 i) (hc_i : w.2.2 i = .inr (3, [x1, .ref (w.1 j), x2, x3, x4])) (hl_j : w.2.1 j) (hc_j : w.2.2 j = .inl (q 1, 4, .inr (.inl f)))  : Met l yX3_setLong wsX3_setLong (rmz 0 0) (va_Pc [.ref (w.1 i), .int r0, .long v] (rPre D q w sz)) (va_Qv (fun (u : Unit) => True) (fun (u : Unit) tt => rPo D (rA w sz) (wU w j (.inl (q 1, 4, .inr (.inl (va_up f (aN r0) v))))) tt) (rA w sz)) 0 0 (rA w sz) := by
  refine r_start (cc := cX3_setLong) (maxL := 4) (ret := none) (by decide) rfl (Nat.le_of_ble_eq_true rfl) ?_
  intro p e s m below meth c ls hC hr hlk hnm hsz hw hl
  have hx := hC.1
  have hb := hC.2.1
  have hl : lv_has ls 4 [(0, .ref (w.1 i)), (1, .int r0), (2, .long v)] := hl
  refine lv_iload_n hx hb dX3_setLong_0 rfl (lv_at hl 1 rfl) ?_
  refine lv_if_lt (tgt := 20) hx hb dX3_setLong_1 (by decide) (fun c_ => absurd c_ (hN_toN hr0)) (fun _ => ?_)
  refine lv_iload_n hx hb dX3_setLong_4 rfl (lv_at hl 1 rfl) ?_
  refine lv_aload_n hx hb dX3_setLong_5 rfl (lv_at hl 0 rfl) ?_
  refine r_get hC hw rk3 in_X3_setLong_3 i hl_i hc_i 1 (by decide) lk_X3_setLong_15 (v := .ref (w.1 j)) rfl dX3_setLong_6 ?_
  refine r_alen hC hw 1 rfl j hl_j hc_j (v := nI 4) rfl dX3_setLong_9 ?_
  refine lv_icmp_ge (tgt := 20) hx hb dX3_setLong_10 (by decide) (fun c_ => absurd c_ (in_nle hr0 (by decide))) (fun _ => ?_)
  refine lv_aload_n hx hb dX3_setLong_13 rfl (lv_at hl 0 rfl) ?_
  refine r_get hC hw rk3 in_X3_setLong_3 i hl_i hc_i 1 (by decide) lk_X3_setLong_15 (v := .ref (w.1 j)) rfl dX3_setLong_14 ?_
  refine lv_iload_n hx hb dX3_setLong_17 rfl (lv_at hl 1 rfl) ?_
  refine lv_lload_n hx hb dX3_setLong_18 rfl (lv_at hl 2 rfl) ?_
  refine r_last hC hw j hl_j hc_j hr0 dX3_setLong_19 (fun H locs hw => ?_)
  exact r_vret hC hr hlk hw () rfl trivial (Nat.le_of_ble_eq_true rfl) (Nat.le_of_ble_eq_true rfl) dX3_setLong_20

set_option maxHeartbeats 4000000 in
set_option maxRecDepth 100000 in
theorem c_X3_getSingle (l : Launch) {D : va_G} {q : Nat → ClassId} (w : wT) (sz : Nat) (i j : Nat) {f : Nat → UInt32} {x1 x2 x3 x4 : Value} (r0 : Int32) (hl_i : w.2.1 i) (hc_i : w.2.2 i = .inr (3, [x1, x2, .ref (w.1 j), x3, x4])) (hl_j : w.2.1 j) (hc_j : w.2.2 j = .inl (q 2, 4, .inr (.inr (.inl f))))  : Met l yX3_getSingle wsX3_getSingle (rmz 0 0) (va_Pc [.ref (w.1 i), .int r0] (rPre D q w sz)) (va_Qf (fun (r : UInt32) (u : Unit) => r = gN 4 f FP.fconst0 r0) (fun (u : Unit) tt => rPo D (rA w sz) w tt) (rA w sz)) 0 0 (rA w sz) := by
  refine r_start (cc := cX3_getSingle) (maxL := 2) (ret := (some .float)) (by decide) rfl (Nat.le_of_ble_eq_true rfl) ?_
  intro p e s m below meth c ls hC hr hlk hnm hsz hw hl
  have hx := hC.1
  have hb := hC.2.1
  have hl : lv_has ls 2 [(0, .ref (w.1 i)), (1, .int r0)] := hl
  refine lv_iload_n hx hb dX3_getSingle_0 rfl (lv_at hl 1 rfl) ?_
  refine lv_if_lt (tgt := 22) hx hb dX3_getSingle_1 (by decide) (fun c_1 => ?_) (fun c_1 => ?_)
  · refine lv_fconst0 hx hb dX3_getSingle_22 ?_
    exact r_fret hC hr hlk hw () rfl (if_neg (Int32.not_le.mpr c_1)).symm (Nat.le_of_ble_eq_true rfl) (Nat.le_of_ble_eq_true rfl) dX3_getSingle_23
  · refine lv_iload_n hx hb dX3_getSingle_4 rfl (lv_at hl 1 rfl) ?_
    refine lv_aload_n hx hb dX3_getSingle_5 rfl (lv_at hl 0 rfl) ?_
    refine r_get hC hw rk3 in_X3_getSingle_3 i hl_i hc_i 2 (by decide) lk_X3_getSingle_19 (v := .ref (w.1 j)) rfl dX3_getSingle_6 ?_
    refine r_alen hC hw 2 rfl j hl_j hc_j (v := nI 4) rfl dX3_getSingle_9 ?_
    refine lv_icmp_ge (tgt := 22) hx hb dX3_getSingle_10 (by decide) (fun c_2 => ?_) (fun c_2 => ?_)
    · refine lv_fconst0 hx hb dX3_getSingle_22 ?_
      exact r_fret hC hr hlk hw () rfl ((if_pos (Int32.not_lt.mp c_1)).trans (if_pos c_2)).symm (Nat.le_of_ble_eq_true rfl) (Nat.le_of_ble_eq_true rfl) dX3_getSingle_23
    · refine lv_aload_n hx hb dX3_getSingle_13 rfl (lv_at hl 0 rfl) ?_
      refine r_get hC hw rk3 in_X3_getSingle_3 i hl_i hc_i 2 (by decide) lk_X3_getSingle_19 (v := .ref (w.1 j)) rfl dX3_getSingle_14 ?_
      refine lv_iload_n hx hb dX3_getSingle_17 rfl (lv_at hl 1 rfl) ?_
      refine r_fald hC hw j hl_j hc_j (inN c_1 c_2) dX3_getSingle_18 ?_
      refine lv_goto (tgt := 23) hx hb dX3_getSingle_19 (by decide) ?_
      exact r_fret hC hr hlk hw () rfl ((if_pos (Int32.not_lt.mp c_1)).trans (if_neg c_2)).symm (Nat.le_of_ble_eq_true rfl) (Nat.le_of_ble_eq_true rfl) dX3_getSingle_23

set_option maxHeartbeats 4000000 in
set_option maxRecDepth 100000 in
theorem c_X3_setSingle (l : Launch) {D : va_G} {q : Nat → ClassId} (w : wT) (sz : Nat) (i j : Nat) {f : Nat → UInt32} {x1 x2 x3 x4 : Value} (r0 : Int32) (v : UInt32) (hr0 : vp_in r0 4) (hl_i : w.2.1 i) (hc_i : w.2.2 i = .inr (3, [x1, x2, .ref (w.1 j), x3, x4])) (hl_j : w.2.1 j) (hc_j : w.2.2 j = .inl (q 2, 4, .inr (.inr (.inl f))))  : Met l yX3_setSingle wsX3_setSingle (rmz 0 0) (va_Pc [.ref (w.1 i), .int r0, .float v] (rPre D q w sz)) (va_Qv (fun (u : Unit) => True) (fun (u : Unit) tt => rPo D (rA w sz) (wU w j (.inl (q 2, 4, .inr (.inr (.inl (va_up f (aN r0) v)))))) tt) (rA w sz)) 0 0 (rA w sz) := by
  refine r_start (cc := cX3_setSingle) (maxL := 3) (ret := none) (by decide) rfl (Nat.le_of_ble_eq_true rfl) ?_
  intro p e s m below meth c ls hC hr hlk hnm hsz hw hl
  have hx := hC.1
  have hb := hC.2.1
  have hl : lv_has ls 3 [(0, .ref (w.1 i)), (1, .int r0), (2, .float v)] := hl
  refine lv_iload_n hx hb dX3_setSingle_0 rfl (lv_at hl 1 rfl) ?_
  refine lv_if_lt (tgt := 20) hx hb dX3_setSingle_1 (by decide) (fun c_ => absurd c_ (hN_toN hr0)) (fun _ => ?_)
  refine lv_iload_n hx hb dX3_setSingle_4 rfl (lv_at hl 1 rfl) ?_
  refine lv_aload_n hx hb dX3_setSingle_5 rfl (lv_at hl 0 rfl) ?_
  refine r_get hC hw rk3 in_X3_setSingle_3 i hl_i hc_i 2 (by decide) lk_X3_setSingle_19 (v := .ref (w.1 j)) rfl dX3_setSingle_6 ?_
  refine r_alen hC hw 2 rfl j hl_j hc_j (v := nI 4) rfl dX3_setSingle_9 ?_
  refine lv_icmp_ge (tgt := 20) hx hb dX3_setSingle_10 (by decide) (fun c_ => absurd c_ (in_nle hr0 (by decide))) (fun _ => ?_)
  refine lv_aload_n hx hb dX3_setSingle_13 rfl (lv_at hl 0 rfl) ?_
  refine r_get hC hw rk3 in_X3_setSingle_3 i hl_i hc_i 2 (by decide) lk_X3_setSingle_19 (v := .ref (w.1 j)) rfl dX3_setSingle_14 ?_
  refine lv_iload_n hx hb dX3_setSingle_17 rfl (lv_at hl 1 rfl) ?_
  refine lv_fload_n hx hb dX3_setSingle_18 rfl (lv_at hl 2 rfl) ?_
  refine r_fast hC hw j hl_j hc_j hr0 dX3_setSingle_19 (fun H locs hw => ?_)
  exact r_vret hC hr hlk hw () rfl trivial (Nat.le_of_ble_eq_true rfl) (Nat.le_of_ble_eq_true rfl) dX3_setSingle_20

set_option maxHeartbeats 4000000 in
set_option maxRecDepth 100000 in
theorem c_X3_getDouble (l : Launch) {D : va_G} {q : Nat → ClassId} (w : wT) (sz : Nat) (i j : Nat) {f : Nat → UInt64} {x1 x2 x3 x4 : Value} (r0 : Int32) (hl_i : w.2.1 i) (hc_i : w.2.2 i = .inr (3, [x1, x2, x3, .ref (w.1 j), x4])) (hl_j : w.2.1 j) (hc_j : w.2.2 j = .inl (q 3, 4, .inr (.inr (.inr (.inl f)))))  : Met l yX3_getDouble wsX3_getDouble (rmz 0 0) (va_Pc [.ref (w.1 i), .int r0] (rPre D q w sz)) (va_Qd (fun (r : UInt64) (u : Unit) => r = gN 4 f FP.dconst0 r0) (fun (u : Unit) tt => rPo D (rA w sz) w tt) (rA w sz)) 0 0 (rA w sz) := by
  refine r_start (cc := cX3_getDouble) (maxL := 2) (ret := (some .double)) (by decide) rfl (Nat.le_of_ble_eq_true rfl) ?_
  intro p e s m below meth c ls hC hr hlk hnm hsz hw hl
  have hx := hC.1
  have hb := hC.2.1
  have hl : lv_has ls 2 [(0, .ref (w.1 i)), (1, .int r0)] := hl
  refine lv_iload_n hx hb dX3_getDouble_0 rfl (lv_at hl 1 rfl) ?_
  refine lv_if_lt (tgt := 22) hx hb dX3_getDouble_1 (by decide) (fun c_1 => ?_) (fun c_1 => ?_)
  · refine lv_dconst0 hx hb dX3_getDouble_22 ?_
    exact r_dret hC hr hlk hw () rfl (if_neg (Int32.not_le.mpr c_1)).symm (Nat.le_of_ble_eq_true rfl) (Nat.le_of_ble_eq_true rfl) dX3_getDouble_23
  · refine lv_iload_n hx hb dX3_getDouble_4 rfl (lv_at hl 1 rfl) ?_
    refine lv_aload_n hx hb dX3_getDouble_5 rfl (lv_at hl 0 rfl) ?_
    refine r_get hC hw rk3 in_X3_getDouble_3 i hl_i hc_i 3 (by decide) lk_X3_getDouble_23 (v := .ref (w.1 j)) rfl dX3_getDouble_6 ?_
    refine r_alen hC hw 3 rfl j hl_j hc_j (v := nI 4) rfl dX3_getDouble_9 ?_
    refine lv_icmp_ge (tgt := 22) hx hb dX3_getDouble_10 (by decide) (fun c_2 => ?_) (fun c_2 => ?_)
    · refine lv_dconst0 hx hb dX3_getDouble_22 ?_
      exact r_dret hC hr hlk hw () rfl ((if_pos (Int32.not_lt.mp c_1)).trans (if_pos c_2)).symm (Nat.le_of_ble_eq_true rfl) (Nat.le_of_ble_eq_true rfl) dX3_getDouble_23
    · refine lv_aload_n hx hb dX3_getDouble_13 rfl (lv_at hl 0 rfl) ?_
      refine r_get hC hw rk3 in_X3_getDouble_3 i hl_i hc_i 3 (by decide) lk_X3_getDouble_23 (v := .ref (w.1 j)) rfl dX3_getDouble_14 ?_
      refine lv_iload_n hx hb dX3_getDouble_17 rfl (lv_at hl 1 rfl) ?_
      refine r_dald hC hw j hl_j hc_j (inN c_1 c_2) dX3_getDouble_18 ?_
      refine lv_goto (tgt := 23) hx hb dX3_getDouble_19 (by decide) ?_
      exact r_dret hC hr hlk hw () rfl ((if_pos (Int32.not_lt.mp c_1)).trans (if_neg c_2)).symm (Nat.le_of_ble_eq_true rfl) (Nat.le_of_ble_eq_true rfl) dX3_getDouble_23

set_option maxHeartbeats 4000000 in
set_option maxRecDepth 100000 in
theorem c_X3_setDouble (l : Launch) {D : va_G} {q : Nat → ClassId} (w : wT) (sz : Nat) (i j : Nat) {f : Nat → UInt64} {x1 x2 x3 x4 : Value} (r0 : Int32) (v : UInt64) (hr0 : vp_in r0 4) (hl_i : w.2.1 i) (hc_i : w.2.2 i = .inr (3, [x1, x2, x3, .ref (w.1 j), x4])) (hl_j : w.2.1 j) (hc_j : w.2.2 j = .inl (q 3, 4, .inr (.inr (.inr (.inl f)))))  : Met l yX3_setDouble wsX3_setDouble (rmz 0 0) (va_Pc [.ref (w.1 i), .int r0, .double v] (rPre D q w sz)) (va_Qv (fun (u : Unit) => True) (fun (u : Unit) tt => rPo D (rA w sz) (wU w j (.inl (q 3, 4, .inr (.inr (.inr (.inl (va_up f (aN r0) v))))))) tt) (rA w sz)) 0 0 (rA w sz) := by
  refine r_start (cc := cX3_setDouble) (maxL := 4) (ret := none) (by decide) rfl (Nat.le_of_ble_eq_true rfl) ?_
  intro p e s m below meth c ls hC hr hlk hnm hsz hw hl
  have hx := hC.1
  have hb := hC.2.1
  have hl : lv_has ls 4 [(0, .ref (w.1 i)), (1, .int r0), (2, .double v)] := hl
  refine lv_iload_n hx hb dX3_setDouble_0 rfl (lv_at hl 1 rfl) ?_
  refine lv_if_lt (tgt := 20) hx hb dX3_setDouble_1 (by decide) (fun c_ => absurd c_ (hN_toN hr0)) (fun _ => ?_)
  refine lv_iload_n hx hb dX3_setDouble_4 rfl (lv_at hl 1 rfl) ?_
  refine lv_aload_n hx hb dX3_setDouble_5 rfl (lv_at hl 0 rfl) ?_
  refine r_get hC hw rk3 in_X3_setDouble_3 i hl_i hc_i 3 (by decide) lk_X3_setDouble_23 (v := .ref (w.1 j)) rfl dX3_setDouble_6 ?_
  refine r_alen hC hw 3 rfl j hl_j hc_j (v := nI 4) rfl dX3_setDouble_9 ?_
  refine lv_icmp_ge (tgt := 20) hx hb dX3_setDouble_10 (by decide) (fun c_ => absurd c_ (in_nle hr0 (by decide))) (fun _ => ?_)
  refine lv_aload_n hx hb dX3_setDouble_13 rfl (lv_at hl 0 rfl) ?_
  refine r_get hC hw rk3 in_X3_setDouble_3 i hl_i hc_i 3 (by decide) lk_X3_setDouble_23 (v := .ref (w.1 j)) rfl dX3_setDouble_14 ?_
  refine lv_iload_n hx hb dX3_setDouble_17 rfl (lv_at hl 1 rfl) ?_
  refine lv_dload_n hx hb dX3_setDouble_18 rfl (lv_at hl 2 rfl) ?_
  refine r_dast hC hw j hl_j hc_j hr0 dX3_setDouble_19 (fun H locs hw => ?_)
  exact r_vret hC hr hlk hw () rfl trivial (Nat.le_of_ble_eq_true rfl) (Nat.le_of_ble_eq_true rfl) dX3_setDouble_20

set_option maxHeartbeats 4000000 in
set_option maxRecDepth 100000 in
theorem c_X3_getThing (l : Launch) {D : va_G} {q : Nat → ClassId} (w : wT) (sz : Nat) (i j : Nat) {f : Nat → Option Nat} {x1 x2 x3 x4 : Value} (r0 : Int32) (hl_i : w.2.1 i) (hc_i : w.2.2 i = .inr (3, [x1, x2, x3, x4, .ref (w.1 j)])) (hl_j : w.2.1 j) (hc_j : w.2.2 j = .inl (q 6, 8, .inr (.inr (.inr (.inr f)))))  : Met l yX3_getThing wsX3_getThing (rmz 0 0) (va_Pc [.ref (w.1 i), .int r0] (rPre D q w sz)) (va_Qq (fun (r : Option Nat) (u : Unit) => r = gN 8 f none r0) (fun (u : Unit) tt => rPo D (rA w sz) w tt) (rA w sz)) 0 0 (rA w sz) := by
  refine r_start (cc := cX3_getThing) (maxL := 2) (ret := (some (.object "FaultLoom$Thing"))) (by decide) rfl (Nat.le_of_ble_eq_true rfl) ?_
  intro p e s m below meth c ls hC hr hlk hnm hsz hw hl
  have hx := hC.1
  have hb := hC.2.1
  have hl : lv_has ls 2 [(0, .ref (w.1 i)), (1, .int r0)] := hl
  refine lv_iload_n hx hb dX3_getThing_0 rfl (lv_at hl 1 rfl) ?_
  refine lv_if_lt (tgt := 22) hx hb dX3_getThing_1 (by decide) (fun c_1 => ?_) (fun c_1 => ?_)
  · refine lv_null hx hb dX3_getThing_22 ?_
    refine r_tops (y := [va_rf none]) rfl ?_
    exact r_qret hC hr hlk hw () rfl (if_neg (Int32.not_le.mpr c_1)).symm (Nat.le_of_ble_eq_true rfl) (Nat.le_of_ble_eq_true rfl) dX3_getThing_23
  · refine lv_iload_n hx hb dX3_getThing_4 rfl (lv_at hl 1 rfl) ?_
    refine lv_aload_n hx hb dX3_getThing_5 rfl (lv_at hl 0 rfl) ?_
    refine r_get hC hw rk3 in_X3_getThing_3 i hl_i hc_i 4 (by decide) lk_X3_getThing_29 (v := .ref (w.1 j)) rfl dX3_getThing_6 ?_
    refine r_alen hC hw 6 rfl j hl_j hc_j (v := nI 8) rfl dX3_getThing_9 ?_
    refine lv_icmp_ge (tgt := 22) hx hb dX3_getThing_10 (by decide) (fun c_2 => ?_) (fun c_2 => ?_)
    · refine lv_null hx hb dX3_getThing_22 ?_
      refine r_tops (y := [va_rf none]) rfl ?_
      exact r_qret hC hr hlk hw () rfl ((if_pos (Int32.not_lt.mp c_1)).trans (if_pos c_2)).symm (Nat.le_of_ble_eq_true rfl) (Nat.le_of_ble_eq_true rfl) dX3_getThing_23
    · refine lv_aload_n hx hb dX3_getThing_13 rfl (lv_at hl 0 rfl) ?_
      refine r_get hC hw rk3 in_X3_getThing_3 i hl_i hc_i 4 (by decide) lk_X3_getThing_29 (v := .ref (w.1 j)) rfl dX3_getThing_14 ?_
      refine lv_iload_n hx hb dX3_getThing_17 rfl (lv_at hl 1 rfl) ?_
      refine r_aald hC hw 6 rfl j hl_j hc_j (inN c_1 c_2) dX3_getThing_18 ?_
      refine lv_goto (tgt := 23) hx hb dX3_getThing_19 (by decide) ?_
      exact r_qret hC hr hlk hw () rfl ((if_pos (Int32.not_lt.mp c_1)).trans (if_neg c_2)).symm (Nat.le_of_ble_eq_true rfl) (Nat.le_of_ble_eq_true rfl) dX3_getThing_23

set_option maxHeartbeats 4000000 in
set_option maxRecDepth 100000 in
theorem c_X3_setThingN (l : Launch) {D : va_G} {q : Nat → ClassId} (w : wT) (sz : Nat) (i j : Nat) {f : Nat → Option Nat} {x1 x2 x3 x4 : Value} (r0 : Int32) (hr0 : vp_in r0 8) (hl_i : w.2.1 i) (hc_i : w.2.2 i = .inr (3, [x1, x2, x3, x4, .ref (w.1 j)])) (hl_j : w.2.1 j) (hc_j : w.2.2 j = .inl (q 6, 8, .inr (.inr (.inr (.inr f)))))  : Met l yX3_setThing wsX3_setThing (rmz 0 0) (va_Pc [.ref (w.1 i), .int r0, .null] (rPre D q w sz)) (va_Qv (fun (u : Unit) => True) (fun (u : Unit) tt => rPo D (rA w sz) (wU w j (.inl (q 6, 8, .inr (.inr (.inr (.inr (va_up f (aN r0) none))))))) tt) (rA w sz)) 0 0 (rA w sz) := by
  refine r_start (cc := cX3_setThing) (maxL := 3) (ret := none) (by decide) rfl (Nat.le_of_ble_eq_true rfl) ?_
  intro p e s m below meth c ls hC hr hlk hnm hsz hw hl
  have hx := hC.1
  have hb := hC.2.1
  have hl : lv_has ls 3 [(0, .ref (w.1 i)), (1, .int r0), (2, .null)] := hl
  refine lv_iload_n hx hb dX3_setThing_0 rfl (lv_at hl 1 rfl) ?_
  refine lv_if_lt (tgt := 20) hx hb dX3_setThing_1 (by decide) (fun c_ => absurd c_ (hN_toN hr0)) (fun _ => ?_)
  refine lv_iload_n hx hb dX3_setThing_4 rfl (lv_at hl 1 rfl) ?_
  refine lv_aload_n hx hb dX3_setThing_5 rfl (lv_at hl 0 rfl) ?_
  refine r_get hC hw rk3 in_X3_setThing_3 i hl_i hc_i 4 (by decide) lk_X3_setThing_29 (v := .ref (w.1 j)) rfl dX3_setThing_6 ?_
  refine r_alen hC hw 6 rfl j hl_j hc_j (v := nI 8) rfl dX3_setThing_9 ?_
  refine lv_icmp_ge (tgt := 20) hx hb dX3_setThing_10 (by decide) (fun c_ => absurd c_ (in_nle hr0 (by decide))) (fun _ => ?_)
  refine lv_aload_n hx hb dX3_setThing_13 rfl (lv_at hl 0 rfl) ?_
  refine r_get hC hw rk3 in_X3_setThing_3 i hl_i hc_i 4 (by decide) lk_X3_setThing_29 (v := .ref (w.1 j)) rfl dX3_setThing_14 ?_
  refine lv_iload_n hx hb dX3_setThing_17 rfl (lv_at hl 1 rfl) ?_
  refine lv_aload_nN hx hb dX3_setThing_18 rfl (lv_at hl 2 rfl) ?_
  refine r_aastN hC hw 6 rfl j hl_j hc_j hr0 dX3_setThing_19 (fun H locs hw => ?_)
  exact r_vret hC hr hlk hw () rfl trivial (Nat.le_of_ble_eq_true rfl) (Nat.le_of_ble_eq_true rfl) dX3_setThing_20

set_option maxHeartbeats 4000000 in
set_option maxRecDepth 100000 in
theorem c_X3_setThing (l : Launch) {D : va_G} {q : Nat → ClassId} (w : wT) (sz : Nat) (i k j : Nat) {f : Nat → Option Nat} {x1 x2 x3 x4 : Value} {z1 z2 z3 z4 z5 z6 z7 z8 : Value} (r0 : Int32) (hr0 : vp_in r0 8) (hl_i : w.2.1 i) (hc_i : w.2.2 i = .inr (3, [x1, x2, x3, x4, .ref (w.1 j)])) (hl_k : w.2.1 k) (hc_k : w.2.2 k = .inr (6, [z1, z2, z3, z4, z5, z6, z7, z8])) (hl_j : w.2.1 j) (hc_j : w.2.2 j = .inl (q 6, 8, .inr (.inr (.inr (.inr f)))))  : Met l yX3_setThing wsX3_setThing (rmz 0 0) (va_Pc [.ref (w.1 i), .int r0, .ref (w.1 k)] (rPre D q w sz)) (va_Qv (fun (u : Unit) => True) (fun (u : Unit) tt => rPo D (rA w sz) (wU w j (.inl (q 6, 8, .inr (.inr (.inr (.inr (va_up f (aN r0) (some (w.1 k))))))))) tt) (rA w sz)) 0 0 (rA w sz) := by
  refine r_start (cc := cX3_setThing) (maxL := 3) (ret := none) (by decide) rfl (Nat.le_of_ble_eq_true rfl) ?_
  intro p e s m below meth c ls hC hr hlk hnm hsz hw hl
  have hx := hC.1
  have hb := hC.2.1
  have hl : lv_has ls 3 [(0, .ref (w.1 i)), (1, .int r0), (2, .ref (w.1 k))] := hl
  refine lv_iload_n hx hb dX3_setThing_0 rfl (lv_at hl 1 rfl) ?_
  refine lv_if_lt (tgt := 20) hx hb dX3_setThing_1 (by decide) (fun c_ => absurd c_ (hN_toN hr0)) (fun _ => ?_)
  refine lv_iload_n hx hb dX3_setThing_4 rfl (lv_at hl 1 rfl) ?_
  refine lv_aload_n hx hb dX3_setThing_5 rfl (lv_at hl 0 rfl) ?_
  refine r_get hC hw rk3 in_X3_setThing_3 i hl_i hc_i 4 (by decide) lk_X3_setThing_29 (v := .ref (w.1 j)) rfl dX3_setThing_6 ?_
  refine r_alen hC hw 6 rfl j hl_j hc_j (v := nI 8) rfl dX3_setThing_9 ?_
  refine lv_icmp_ge (tgt := 20) hx hb dX3_setThing_10 (by decide) (fun c_ => absurd c_ (in_nle hr0 (by decide))) (fun _ => ?_)
  refine lv_aload_n hx hb dX3_setThing_13 rfl (lv_at hl 0 rfl) ?_
  refine r_get hC hw rk3 in_X3_setThing_3 i hl_i hc_i 4 (by decide) lk_X3_setThing_29 (v := .ref (w.1 j)) rfl dX3_setThing_14 ?_
  refine lv_iload_n hx hb dX3_setThing_17 rfl (lv_at hl 1 rfl) ?_
  refine lv_aload_n hx hb dX3_setThing_18 rfl (lv_at hl 2 rfl) ?_
  refine r_aast hC hw 6 rk6 rfl j hl_j hc_j hr0 k hl_k hc_k dX3_setThing_19 (fun H locs hw => ?_)
  exact r_vret hC hr hlk hw () rfl trivial (Nat.le_of_ble_eq_true rfl) (Nat.le_of_ble_eq_true rfl) dX3_setThing_20

set_option maxHeartbeats 4000000 in
set_option maxRecDepth 100000 in
theorem c_X3_hasThing (l : Launch) {D : va_G} {q : Nat → ClassId} (w : wT) (sz : Nat) (i j : Nat) {f : Nat → Option Nat} {x1 x2 x3 x4 : Value} (r0 : Int32) (hl_i : w.2.1 i) (hc_i : w.2.2 i = .inr (3, [x1, x2, x3, x4, .ref (w.1 j)])) (hl_j : w.2.1 j) (hc_j : w.2.2 j = .inl (q 6, 8, .inr (.inr (.inr (.inr f)))))  : Met l yX3_hasThing wsX3_hasThing (rmz 0 0) (va_Pc [.ref (w.1 i), .int r0] (rPre D q w sz)) (va_Qi (fun (r : Int32) (u : Unit) => r = if 0 ≤ r0 then (if nI 8 ≤ r0 then 0 else 1) else 0) (fun (u : Unit) tt => rPo D (rA w sz) w tt) (rA w sz)) 0 0 (rA w sz) := by
  refine r_start (cc := cX3_hasThing) (maxL := 2) (ret := (some .boolean)) (by decide) rfl (Nat.le_of_ble_eq_true rfl) ?_
  intro p e s m below meth c ls hC hr hlk hnm hsz hw hl
  have hx := hC.1
  have hb := hC.2.1
  have hl : lv_has ls 2 [(0, .ref (w.1 i)), (1, .int r0)] := hl
  refine lv_iload_n hx hb dX3_hasThing_0 rfl (lv_at hl 1 rfl) ?_
  refine lv_if_lt (tgt := 17) hx hb dX3_hasThing_1 (by decide) (fun c_1 => ?_) (fun c_1 => ?_)
  · refine lv_iconst (v := 0) hx hb dX3_hasThing_17 (by decide) ?_
    exact r_zret hC hr (by decide) hlk hw () rfl (if_neg (Int32.not_le.mpr c_1)).symm (Nat.le_of_ble_eq_true rfl) (Nat.le_of_ble_eq_true rfl) dX3_hasThing_18
  · refine lv_iload_n hx hb dX3_hasThing_4 rfl (lv_at hl 1 rfl) ?_
    refine lv_aload_n hx hb dX3_hasThing_5 rfl (lv_at hl 0 rfl) ?_
    refine r_get hC hw rk3 in_X3_hasThing_3 i hl_i hc_i 4 (by decide) lk_X3_hasThing_29 (v := .ref (w.1 j)) rfl dX3_hasThing_6 ?_
    refine r_alen hC hw 6 rfl j hl_j hc_j (v := nI 8) rfl dX3_hasThing_9 ?_
    refine lv_icmp_ge (tgt := 17) hx hb dX3_hasThing_10 (by decide) (fun c_2 => ?_) (fun c_2 => ?_)
    · refine lv_iconst (v := 0) hx hb dX3_hasThing_17 (by decide) ?_
      exact r_zret hC hr (by decide) hlk hw () rfl ((if_pos (Int32.not_lt.mp c_1)).trans (if_pos c_2)).symm (Nat.le_of_ble_eq_true rfl) (Nat.le_of_ble_eq_true rfl) dX3_hasThing_18
    · refine lv_iconst (v := 1) hx hb dX3_hasThing_13 (by decide) ?_
      refine lv_goto (tgt := 18) hx hb dX3_hasThing_14 (by decide) ?_
      exact r_zret hC hr (by decide) hlk hw () rfl ((if_pos (Int32.not_lt.mp c_1)).trans (if_neg c_2)).symm (Nat.le_of_ble_eq_true rfl) (Nat.le_of_ble_eq_true rfl) dX3_hasThing_18

set_option maxHeartbeats 4000000 in
set_option maxRecDepth 100000 in
theorem c_X6_isRow (l : Launch) {D : va_G} {q : Nat → ClassId} (w : wT) (sz : Nat) (i : Nat) {x1 x2 x3 x4 : Value} {kd pl tg : Int32} {wt : Int64}  (hl_i : w.2.1 i) (hc_i : w.2.2 i = .inr (6, [.int kd, .int pl, x1, x2, x3, .int tg, .long wt, x4]))  : Met l yX6_isRow wsX6_isRow (rmz 0 0) (va_Pc [.ref (w.1 i)] (rPre D q w sz)) (va_Qi (fun (r : Int32) (u : Unit) => r = if pRow kd then 1 else 0) (fun (u : Unit) tt => rPo D (rA w sz) w tt) (rA w sz)) 0 0 (rA w sz) := by
  refine r_start (cc := cX6_isRow) (maxL := 1) (ret := (some .boolean)) (by decide) rfl (Nat.le_of_ble_eq_true rfl) ?_
  intro p e s m below meth c ls hC hr hlk hnm hsz hw hl
  have hx := hC.1
  have hb := hC.2.1
  have hl : lv_has ls 1 [(0, .ref (w.1 i))] := hl
  refine lv_aload_n hx hb dX6_isRow_0 rfl (lv_at hl 0 rfl) ?_
  refine r_get hC hw rk6 in_X6_isRow_6 i hl_i hc_i 0 (by decide) lk_X6_isRow_9 (v := .int kd) rfl dX6_isRow_1 ?_
  refine lv_bipush (v := 10) hx hb dX6_isRow_4 (by decide) ?_
  refine lv_icmp_gt (tgt := 13) hx hb dX6_isRow_6 (by decide) (fun c_1 => ?_) (fun c_1 => ?_)
  · refine lv_iconst (v := 0) hx hb dX6_isRow_13 (by decide) ?_
    exact r_zret hC hr (by decide) hlk hw () rfl (if_neg (fun h => h c_1)).symm (Nat.le_of_ble_eq_true rfl) (Nat.le_of_ble_eq_true rfl) dX6_isRow_14
  · refine lv_iconst (v := 1) hx hb dX6_isRow_9 (by decide) ?_
    refine lv_goto (tgt := 14) hx hb dX6_isRow_10 (by decide) ?_
    exact r_zret hC hr (by decide) hlk hw () rfl (if_pos c_1).symm (Nat.le_of_ble_eq_true rfl) (Nat.le_of_ble_eq_true rfl) dX6_isRow_14

set_option maxHeartbeats 4000000 in
set_option maxRecDepth 100000 in
theorem c_X6_hasPlace (l : Launch) {D : va_G} {q : Nat → ClassId} (w : wT) (sz : Nat) (i : Nat) {x1 x2 x3 x4 : Value} {kd pl tg : Int32} {wt : Int64} (r0 : Int32) (hl_i : w.2.1 i) (hc_i : w.2.2 i = .inr (6, [.int kd, .int pl, x1, x2, x3, .int tg, .long wt, x4]))  : Met l yX6_hasPlace wsX6_hasPlace (rmz 0 0) (va_Pc [.ref (w.1 i), .int r0] (rPre D q w sz)) (va_Qi (fun (r : Int32) (u : Unit) => r = if 0 ≤ r0 then (if pl ≤ r0 then 0 else 1) else 0) (fun (u : Unit) tt => rPo D (rA w sz) w tt) (rA w sz)) 0 0 (rA w sz) := by
  refine r_start (cc := cX6_hasPlace) (maxL := 2) (ret := (some .boolean)) (by decide) rfl (Nat.le_of_ble_eq_true rfl) ?_
  intro p e s m below meth c ls hC hr hlk hnm hsz hw hl
  have hx := hC.1
  have hb := hC.2.1
  have hl : lv_has ls 2 [(0, .ref (w.1 i)), (1, .int r0)] := hl
  refine lv_iload_n hx hb dX6_hasPlace_0 rfl (lv_at hl 1 rfl) ?_
  refine lv_if_lt (tgt := 16) hx hb dX6_hasPlace_1 (by decide) (fun c_1 => ?_) (fun c_1 => ?_)
  · refine lv_iconst (v := 0) hx hb dX6_hasPlace_16 (by decide) ?_
    exact r_zret hC hr (by decide) hlk hw () rfl (if_neg (Int32.not_le.mpr c_1)).symm (Nat.le_of_ble_eq_true rfl) (Nat.le_of_ble_eq_true rfl) dX6_hasPlace_17
  · refine lv_iload_n hx hb dX6_hasPlace_4 rfl (lv_at hl 1 rfl) ?_
    refine lv_aload_n hx hb dX6_hasPlace_5 rfl (lv_at hl 0 rfl) ?_
    refine r_get hC hw rk6 in_X6_hasPlace_6 i hl_i hc_i 1 (by decide) lk_X6_hasPlace_15 (v := .int pl) rfl dX6_hasPlace_6 ?_
    refine lv_icmp_ge (tgt := 16) hx hb dX6_hasPlace_9 (by decide) (fun c_2 => ?_) (fun c_2 => ?_)
    · refine lv_iconst (v := 0) hx hb dX6_hasPlace_16 (by decide) ?_
      exact r_zret hC hr (by decide) hlk hw () rfl ((if_pos (Int32.not_lt.mp c_1)).trans (if_pos c_2)).symm (Nat.le_of_ble_eq_true rfl) (Nat.le_of_ble_eq_true rfl) dX6_hasPlace_17
    · refine lv_iconst (v := 1) hx hb dX6_hasPlace_12 (by decide) ?_
      refine lv_goto (tgt := 17) hx hb dX6_hasPlace_13 (by decide) ?_
      exact r_zret hC hr (by decide) hlk hw () rfl ((if_pos (Int32.not_lt.mp c_1)).trans (if_neg c_2)).symm (Nat.le_of_ble_eq_true rfl) (Nat.le_of_ble_eq_true rfl) dX6_hasPlace_17

set_option maxHeartbeats 4000000 in
set_option maxRecDepth 100000 in
theorem c_X6_turn (l : Launch) {D : va_G} {q : Nat → ClassId} (w : wT) (sz : Nat) (i : Nat) {x1 x2 x3 x4 : Value} {kd pl tg : Int32} {wt : Int64} (r0 : Int32) (hl_i : w.2.1 i) (hc_i : w.2.2 i = .inr (6, [.int kd, .int pl, x1, x2, x3, .int tg, .long wt, x4]))  : Met l yX6_turn wsX6_turn (rmz 0 0) (va_Pc [.ref (w.1 i), .int r0] (rPre D q w sz)) (va_Qi (fun (r : Int32) (u : Unit) => r = pTurn kd tg r0) (fun (u : Unit) tt => rPo D (rA w sz) w tt) (rA w sz)) 0 0 (rA w sz) := by
  refine r_start (cc := cX6_turn) (maxL := 2) (ret := (some .int)) (by decide) rfl (Nat.le_of_ble_eq_true rfl) ?_
  intro p e s m below meth c ls hC hr hlk hnm hsz hw hl
  have hx := hC.1
  have hb := hC.2.1
  have hl : lv_has ls 2 [(0, .ref (w.1 i)), (1, .int r0)] := hl
  refine lv_aload_n hx hb dX6_turn_0 rfl (lv_at hl 0 rfl) ?_
  refine r_get hC hw rk6 in_X6_turn_6 i hl_i hc_i 0 (by decide) lk_X6_turn_9 (v := .int kd) rfl dX6_turn_1 ?_
  refine lv_bipush (v := 14) hx hb dX6_turn_4 (by decide) ?_
  refine lv_icmp_ne (tgt := 16) hx hb dX6_turn_6 (by decide) (fun c_1 => ?_) (fun c_1 => ?_)
  · refine lv_aload_n hx hb dX6_turn_16 rfl (lv_at hl 0 rfl) ?_
    refine r_get hC hw rk6 in_X6_turn_6 i hl_i hc_i 0 (by decide) lk_X6_turn_9 (v := .int kd) rfl dX6_turn_17 ?_
    refine lv_bipush (v := 13) hx hb dX6_turn_20 (by decide) ?_
    refine lv_icmp_ne (tgt := 38) hx hb dX6_turn_22 (by decide) (fun c_2 => ?_) (fun c_2 => ?_)
    · refine lv_iload_n hx hb dX6_turn_38 rfl (lv_at hl 1 rfl) ?_
      refine lv_aload_n hx hb dX6_turn_39 rfl (lv_at hl 0 rfl) ?_
      refine r_get hC hw rk6 in_X6_turn_6 i hl_i hc_i 5 (by decide) lk_X6_turn_30 (v := .int tg) rfl dX6_turn_40 ?_
      refine lv_iadd hx hb dX6_turn_43 ?_
      exact r_iret hC hr hlk hw () rfl ((if_neg c_1).trans (if_neg c_2)).symm (Nat.le_of_ble_eq_true rfl) (Nat.le_of_ble_eq_true rfl) dX6_turn_44
    · refine lv_iconst (v := 2) hx hb dX6_turn_25 (by decide) ?_
      refine lv_iload_n hx hb dX6_turn_26 rfl (lv_at hl 1 rfl) ?_
      refine lv_aload_n hx hb dX6_turn_27 rfl (lv_at hl 0 rfl) ?_
      refine r_get hC hw rk6 in_X6_turn_6 i hl_i hc_i 5 (by decide) lk_X6_turn_30 (v := .int tg) rfl dX6_turn_28 ?_
      refine lv_iadd hx hb dX6_turn_31 ?_
      refine lv_imul hx hb dX6_turn_32 ?_
      refine lv_iconst (v := 1) hx hb dX6_turn_33 (by decide) ?_
      refine lv_iadd hx hb dX6_turn_34 ?_
      refine lv_goto (tgt := 44) hx hb dX6_turn_35 (by decide) ?_
      exact r_iret hC hr hlk hw () rfl ((if_neg c_1).trans (if_pos c_2)).symm (Nat.le_of_ble_eq_true rfl) (Nat.le_of_ble_eq_true rfl) dX6_turn_44
  · refine lv_aload_n hx hb dX6_turn_9 rfl (lv_at hl 0 rfl) ?_
    refine r_get hC hw rk6 in_X6_turn_6 i hl_i hc_i 5 (by decide) lk_X6_turn_30 (v := .int tg) rfl dX6_turn_10 ?_
    refine lv_iload_n hx hb dX6_turn_13 rfl (lv_at hl 1 rfl) ?_
    refine lv_imul hx hb dX6_turn_14 ?_
    exact r_iret hC hr hlk hw () rfl (if_pos c_1).symm (Nat.le_of_ble_eq_true rfl) (Nat.le_of_ble_eq_true rfl) dX6_turn_15

set_option maxHeartbeats 4000000 in
set_option maxRecDepth 100000 in
theorem c_X6_isOf_0 (l : Launch) {D : va_G} {q : Nat → ClassId} (w : wT) (sz : Nat) (i : Nat) {x1 x2 x3 x4 : Value} {kd pl tg : Int32} {wt : Int64} (hk : vp_in kd 16) (hl_i : w.2.1 i) (hc_i : w.2.2 i = .inr (6, [.int kd, .int pl, x1, x2, x3, .int tg, .long wt, x4]))  : Met l yX6_isOf wsX6_isOf (rmz 0 0) (va_Pc [.ref (w.1 i), .int 0] (rPre D q w sz)) (va_Qi (fun (r : Int32) (u : Unit) => r = if pOf kd 0 then 1 else 0) (fun (u : Unit) tt => rPo D (rA w sz) w tt) (rA w sz)) 0 0 (rA w sz) := by
  refine r_start (cc := cX6_isOf) (maxL := 2) (ret := (some .boolean)) (by decide) rfl (Nat.le_of_ble_eq_true rfl) ?_
  intro p e s m below meth c ls hC hr hlk hnm hsz hw hl
  have hx := hC.1
  have hb := hC.2.1
  have hl : lv_has ls 2 [(0, .ref (w.1 i)), (1, .int 0)] := hl
  refine lv_iload_n hx hb dX6_isOf_0 rfl (lv_at hl 1 rfl) ?_
  refine lv_tableOut (tgt := 157) hx hb dX6_isOf_1 (by decide) (by decide) ?_
  refine lv_aload_n hx hb dX6_isOf_157 rfl (lv_at hl 0 rfl) ?_
  refine r_get hC hw rk6 in_X6_isOf_6 i hl_i hc_i 0 (by decide) lk_X6_isOf_9 (v := .int kd) rfl dX6_isOf_158 ?_
  refine lv_iload_n hx hb dX6_isOf_161 rfl (lv_at hl 1 rfl) ?_
  refine lv_icmp_ne (tgt := 169) hx hb dX6_isOf_162 (by decide) (fun c_1 => ?_) (fun c_1 => ?_)
  · refine lv_iconst (v := 0) hx hb dX6_isOf_169 (by decide) ?_
    exact r_zret hC hr (by decide) hlk hw () rfl (by simp [pOf, c_1]) (Nat.le_of_ble_eq_true rfl) (Nat.le_of_ble_eq_true rfl) dX6_isOf_170
  · refine lv_iconst (v := 1) hx hb dX6_isOf_165 (by decide) ?_
    refine lv_goto (tgt := 170) hx hb dX6_isOf_166 (by decide) ?_
    exact r_zret hC hr (by decide) hlk hw () rfl (by simp [pOf, c_1]) (Nat.le_of_ble_eq_true rfl) (Nat.le_of_ble_eq_true rfl) dX6_isOf_170

set_option maxHeartbeats 4000000 in
set_option maxRecDepth 100000 in
theorem c_X6_isOf_1 (l : Launch) {D : va_G} {q : Nat → ClassId} (w : wT) (sz : Nat) (i : Nat) {x1 x2 x3 x4 : Value} {kd pl tg : Int32} {wt : Int64} (hk : vp_in kd 16) (hl_i : w.2.1 i) (hc_i : w.2.2 i = .inr (6, [.int kd, .int pl, x1, x2, x3, .int tg, .long wt, x4]))  : Met l yX6_isOf wsX6_isOf (rmz 0 0) (va_Pc [.ref (w.1 i), .int 1] (rPre D q w sz)) (va_Qi (fun (r : Int32) (u : Unit) => r = if pOf kd 1 then 1 else 0) (fun (u : Unit) tt => rPo D (rA w sz) w tt) (rA w sz)) 0 0 (rA w sz) := by
  refine r_start (cc := cX6_isOf) (maxL := 2) (ret := (some .boolean)) (by decide) rfl (Nat.le_of_ble_eq_true rfl) ?_
  intro p e s m below meth c ls hC hr hlk hnm hsz hw hl
  have hx := hC.1
  have hb := hC.2.1
  have hl : lv_has ls 2 [(0, .ref (w.1 i)), (1, .int 1)] := hl
  refine lv_iload_n hx hb dX6_isOf_0 rfl (lv_at hl 1 rfl) ?_
  refine lv_tableOut (tgt := 157) hx hb dX6_isOf_1 (by decide) (by decide) ?_
  refine lv_aload_n hx hb dX6_isOf_157 rfl (lv_at hl 0 rfl) ?_
  refine r_get hC hw rk6 in_X6_isOf_6 i hl_i hc_i 0 (by decide) lk_X6_isOf_9 (v := .int kd) rfl dX6_isOf_158 ?_
  refine lv_iload_n hx hb dX6_isOf_161 rfl (lv_at hl 1 rfl) ?_
  refine lv_icmp_ne (tgt := 169) hx hb dX6_isOf_162 (by decide) (fun c_1 => ?_) (fun c_1 => ?_)
  · refine lv_iconst (v := 0) hx hb dX6_isOf_169 (by decide) ?_
    exact r_zret hC hr (by decide) hlk hw () rfl (by simp [pOf, c_1]) (Nat.le_of_ble_eq_true rfl) (Nat.le_of_ble_eq_true rfl) dX6_isOf_170
  · refine lv_iconst (v := 1) hx hb dX6_isOf_165 (by decide) ?_
    refine lv_goto (tgt := 170) hx hb dX6_isOf_166 (by decide) ?_
    exact r_zret hC hr (by decide) hlk hw () rfl (by simp [pOf, c_1]) (Nat.le_of_ble_eq_true rfl) (Nat.le_of_ble_eq_true rfl) dX6_isOf_170

set_option maxHeartbeats 4000000 in
set_option maxRecDepth 100000 in
theorem c_X6_isOf_2 (l : Launch) {D : va_G} {q : Nat → ClassId} (w : wT) (sz : Nat) (i : Nat) {x1 x2 x3 x4 : Value} {kd pl tg : Int32} {wt : Int64} (hk : vp_in kd 16) (hl_i : w.2.1 i) (hc_i : w.2.2 i = .inr (6, [.int kd, .int pl, x1, x2, x3, .int tg, .long wt, x4]))  : Met l yX6_isOf wsX6_isOf (rmz 0 0) (va_Pc [.ref (w.1 i), .int 2] (rPre D q w sz)) (va_Qi (fun (r : Int32) (u : Unit) => r = if pOf kd 2 then 1 else 0) (fun (u : Unit) tt => rPo D (rA w sz) w tt) (rA w sz)) 0 0 (rA w sz) := by
  refine r_start (cc := cX6_isOf) (maxL := 2) (ret := (some .boolean)) (by decide) rfl (Nat.le_of_ble_eq_true rfl) ?_
  intro p e s m below meth c ls hC hr hlk hnm hsz hw hl
  have hx := hC.1
  have hb := hC.2.1
  have hl : lv_has ls 2 [(0, .ref (w.1 i)), (1, .int 2)] := hl
  refine lv_iload_n hx hb dX6_isOf_0 rfl (lv_at hl 1 rfl) ?_
  refine lv_tableOut (tgt := 157) hx hb dX6_isOf_1 (by decide) (by decide) ?_
  refine lv_aload_n hx hb dX6_isOf_157 rfl (lv_at hl 0 rfl) ?_
  refine r_get hC hw rk6 in_X6_isOf_6 i hl_i hc_i 0 (by decide) lk_X6_isOf_9 (v := .int kd) rfl dX6_isOf_158 ?_
  refine lv_iload_n hx hb dX6_isOf_161 rfl (lv_at hl 1 rfl) ?_
  refine lv_icmp_ne (tgt := 169) hx hb dX6_isOf_162 (by decide) (fun c_1 => ?_) (fun c_1 => ?_)
  · refine lv_iconst (v := 0) hx hb dX6_isOf_169 (by decide) ?_
    exact r_zret hC hr (by decide) hlk hw () rfl (by simp [pOf, c_1]) (Nat.le_of_ble_eq_true rfl) (Nat.le_of_ble_eq_true rfl) dX6_isOf_170
  · refine lv_iconst (v := 1) hx hb dX6_isOf_165 (by decide) ?_
    refine lv_goto (tgt := 170) hx hb dX6_isOf_166 (by decide) ?_
    exact r_zret hC hr (by decide) hlk hw () rfl (by simp [pOf, c_1]) (Nat.le_of_ble_eq_true rfl) (Nat.le_of_ble_eq_true rfl) dX6_isOf_170

set_option maxHeartbeats 4000000 in
set_option maxRecDepth 100000 in
theorem c_X6_isOf_3 (l : Launch) {D : va_G} {q : Nat → ClassId} (w : wT) (sz : Nat) (i : Nat) {x1 x2 x3 x4 : Value} {kd pl tg : Int32} {wt : Int64} (hk : vp_in kd 16) (hl_i : w.2.1 i) (hc_i : w.2.2 i = .inr (6, [.int kd, .int pl, x1, x2, x3, .int tg, .long wt, x4]))  : Met l yX6_isOf wsX6_isOf (rmz 0 0) (va_Pc [.ref (w.1 i), .int 3] (rPre D q w sz)) (va_Qi (fun (r : Int32) (u : Unit) => r = if pOf kd 3 then 1 else 0) (fun (u : Unit) tt => rPo D (rA w sz) w tt) (rA w sz)) 0 0 (rA w sz) := by
  refine r_start (cc := cX6_isOf) (maxL := 2) (ret := (some .boolean)) (by decide) rfl (Nat.le_of_ble_eq_true rfl) ?_
  intro p e s m below meth c ls hC hr hlk hnm hsz hw hl
  have hx := hC.1
  have hb := hC.2.1
  have hl : lv_has ls 2 [(0, .ref (w.1 i)), (1, .int 3)] := hl
  refine lv_iload_n hx hb dX6_isOf_0 rfl (lv_at hl 1 rfl) ?_
  refine lv_tableOut (tgt := 157) hx hb dX6_isOf_1 (by decide) (by decide) ?_
  refine lv_aload_n hx hb dX6_isOf_157 rfl (lv_at hl 0 rfl) ?_
  refine r_get hC hw rk6 in_X6_isOf_6 i hl_i hc_i 0 (by decide) lk_X6_isOf_9 (v := .int kd) rfl dX6_isOf_158 ?_
  refine lv_iload_n hx hb dX6_isOf_161 rfl (lv_at hl 1 rfl) ?_
  refine lv_icmp_ne (tgt := 169) hx hb dX6_isOf_162 (by decide) (fun c_1 => ?_) (fun c_1 => ?_)
  · refine lv_iconst (v := 0) hx hb dX6_isOf_169 (by decide) ?_
    exact r_zret hC hr (by decide) hlk hw () rfl (by simp [pOf, c_1]) (Nat.le_of_ble_eq_true rfl) (Nat.le_of_ble_eq_true rfl) dX6_isOf_170
  · refine lv_iconst (v := 1) hx hb dX6_isOf_165 (by decide) ?_
    refine lv_goto (tgt := 170) hx hb dX6_isOf_166 (by decide) ?_
    exact r_zret hC hr (by decide) hlk hw () rfl (by simp [pOf, c_1]) (Nat.le_of_ble_eq_true rfl) (Nat.le_of_ble_eq_true rfl) dX6_isOf_170

set_option maxHeartbeats 4000000 in
set_option maxRecDepth 100000 in
theorem c_X6_isOf_4 (l : Launch) {D : va_G} {q : Nat → ClassId} (w : wT) (sz : Nat) (i : Nat) {x1 x2 x3 x4 : Value} {kd pl tg : Int32} {wt : Int64} (hk : vp_in kd 16) (hl_i : w.2.1 i) (hc_i : w.2.2 i = .inr (6, [.int kd, .int pl, x1, x2, x3, .int tg, .long wt, x4]))  : Met l yX6_isOf wsX6_isOf (rmz 0 0) (va_Pc [.ref (w.1 i), .int 4] (rPre D q w sz)) (va_Qi (fun (r : Int32) (u : Unit) => r = if pOf kd 4 then 1 else 0) (fun (u : Unit) tt => rPo D (rA w sz) w tt) (rA w sz)) 0 0 (rA w sz) := by
  refine r_start (cc := cX6_isOf) (maxL := 2) (ret := (some .boolean)) (by decide) rfl (Nat.le_of_ble_eq_true rfl) ?_
  intro p e s m below meth c ls hC hr hlk hnm hsz hw hl
  have hx := hC.1
  have hb := hC.2.1
  have hl : lv_has ls 2 [(0, .ref (w.1 i)), (1, .int 4)] := hl
  refine lv_iload_n hx hb dX6_isOf_0 rfl (lv_at hl 1 rfl) ?_
  refine lv_tableOut (tgt := 157) hx hb dX6_isOf_1 (by decide) (by decide) ?_
  refine lv_aload_n hx hb dX6_isOf_157 rfl (lv_at hl 0 rfl) ?_
  refine r_get hC hw rk6 in_X6_isOf_6 i hl_i hc_i 0 (by decide) lk_X6_isOf_9 (v := .int kd) rfl dX6_isOf_158 ?_
  refine lv_iload_n hx hb dX6_isOf_161 rfl (lv_at hl 1 rfl) ?_
  refine lv_icmp_ne (tgt := 169) hx hb dX6_isOf_162 (by decide) (fun c_1 => ?_) (fun c_1 => ?_)
  · refine lv_iconst (v := 0) hx hb dX6_isOf_169 (by decide) ?_
    exact r_zret hC hr (by decide) hlk hw () rfl (by simp [pOf, c_1]) (Nat.le_of_ble_eq_true rfl) (Nat.le_of_ble_eq_true rfl) dX6_isOf_170
  · refine lv_iconst (v := 1) hx hb dX6_isOf_165 (by decide) ?_
    refine lv_goto (tgt := 170) hx hb dX6_isOf_166 (by decide) ?_
    exact r_zret hC hr (by decide) hlk hw () rfl (by simp [pOf, c_1]) (Nat.le_of_ble_eq_true rfl) (Nat.le_of_ble_eq_true rfl) dX6_isOf_170

set_option maxHeartbeats 4000000 in
set_option maxRecDepth 100000 in
theorem c_X6_isOf_5 (l : Launch) {D : va_G} {q : Nat → ClassId} (w : wT) (sz : Nat) (i : Nat) {x1 x2 x3 x4 : Value} {kd pl tg : Int32} {wt : Int64} (hk : vp_in kd 16) (hl_i : w.2.1 i) (hc_i : w.2.2 i = .inr (6, [.int kd, .int pl, x1, x2, x3, .int tg, .long wt, x4]))  : Met l yX6_isOf wsX6_isOf (rmz 0 0) (va_Pc [.ref (w.1 i), .int 5] (rPre D q w sz)) (va_Qi (fun (r : Int32) (u : Unit) => r = if pOf kd 5 then 1 else 0) (fun (u : Unit) tt => rPo D (rA w sz) w tt) (rA w sz)) 0 0 (rA w sz) := by
  refine r_start (cc := cX6_isOf) (maxL := 2) (ret := (some .boolean)) (by decide) rfl (Nat.le_of_ble_eq_true rfl) ?_
  intro p e s m below meth c ls hC hr hlk hnm hsz hw hl
  have hx := hC.1
  have hb := hC.2.1
  have hl : lv_has ls 2 [(0, .ref (w.1 i)), (1, .int 5)] := hl
  refine lv_iload_n hx hb dX6_isOf_0 rfl (lv_at hl 1 rfl) ?_
  refine lv_tableOut (tgt := 157) hx hb dX6_isOf_1 (by decide) (by decide) ?_
  refine lv_aload_n hx hb dX6_isOf_157 rfl (lv_at hl 0 rfl) ?_
  refine r_get hC hw rk6 in_X6_isOf_6 i hl_i hc_i 0 (by decide) lk_X6_isOf_9 (v := .int kd) rfl dX6_isOf_158 ?_
  refine lv_iload_n hx hb dX6_isOf_161 rfl (lv_at hl 1 rfl) ?_
  refine lv_icmp_ne (tgt := 169) hx hb dX6_isOf_162 (by decide) (fun c_1 => ?_) (fun c_1 => ?_)
  · refine lv_iconst (v := 0) hx hb dX6_isOf_169 (by decide) ?_
    exact r_zret hC hr (by decide) hlk hw () rfl (by simp [pOf, c_1]) (Nat.le_of_ble_eq_true rfl) (Nat.le_of_ble_eq_true rfl) dX6_isOf_170
  · refine lv_iconst (v := 1) hx hb dX6_isOf_165 (by decide) ?_
    refine lv_goto (tgt := 170) hx hb dX6_isOf_166 (by decide) ?_
    exact r_zret hC hr (by decide) hlk hw () rfl (by simp [pOf, c_1]) (Nat.le_of_ble_eq_true rfl) (Nat.le_of_ble_eq_true rfl) dX6_isOf_170

set_option maxHeartbeats 4000000 in
set_option maxRecDepth 100000 in
theorem c_X6_isOf_6 (l : Launch) {D : va_G} {q : Nat → ClassId} (w : wT) (sz : Nat) (i : Nat) {x1 x2 x3 x4 : Value} {kd pl tg : Int32} {wt : Int64} (hk : vp_in kd 16) (hl_i : w.2.1 i) (hc_i : w.2.2 i = .inr (6, [.int kd, .int pl, x1, x2, x3, .int tg, .long wt, x4]))  : Met l yX6_isOf wsX6_isOf (rmz 0 0) (va_Pc [.ref (w.1 i), .int 6] (rPre D q w sz)) (va_Qi (fun (r : Int32) (u : Unit) => r = if pOf kd 6 then 1 else 0) (fun (u : Unit) tt => rPo D (rA w sz) w tt) (rA w sz)) 0 0 (rA w sz) := by
  refine r_start (cc := cX6_isOf) (maxL := 2) (ret := (some .boolean)) (by decide) rfl (Nat.le_of_ble_eq_true rfl) ?_
  intro p e s m below meth c ls hC hr hlk hnm hsz hw hl
  have hx := hC.1
  have hb := hC.2.1
  have hl : lv_has ls 2 [(0, .ref (w.1 i)), (1, .int 6)] := hl
  refine lv_iload_n hx hb dX6_isOf_0 rfl (lv_at hl 1 rfl) ?_
  refine lv_tableOut (tgt := 157) hx hb dX6_isOf_1 (by decide) (by decide) ?_
  refine lv_aload_n hx hb dX6_isOf_157 rfl (lv_at hl 0 rfl) ?_
  refine r_get hC hw rk6 in_X6_isOf_6 i hl_i hc_i 0 (by decide) lk_X6_isOf_9 (v := .int kd) rfl dX6_isOf_158 ?_
  refine lv_iload_n hx hb dX6_isOf_161 rfl (lv_at hl 1 rfl) ?_
  refine lv_icmp_ne (tgt := 169) hx hb dX6_isOf_162 (by decide) (fun c_1 => ?_) (fun c_1 => ?_)
  · refine lv_iconst (v := 0) hx hb dX6_isOf_169 (by decide) ?_
    exact r_zret hC hr (by decide) hlk hw () rfl (by simp [pOf, c_1]) (Nat.le_of_ble_eq_true rfl) (Nat.le_of_ble_eq_true rfl) dX6_isOf_170
  · refine lv_iconst (v := 1) hx hb dX6_isOf_165 (by decide) ?_
    refine lv_goto (tgt := 170) hx hb dX6_isOf_166 (by decide) ?_
    exact r_zret hC hr (by decide) hlk hw () rfl (by simp [pOf, c_1]) (Nat.le_of_ble_eq_true rfl) (Nat.le_of_ble_eq_true rfl) dX6_isOf_170

set_option maxHeartbeats 4000000 in
set_option maxRecDepth 100000 in
theorem c_X6_isOf_7 (l : Launch) {D : va_G} {q : Nat → ClassId} (w : wT) (sz : Nat) (i : Nat) {x1 x2 x3 x4 : Value} {kd pl tg : Int32} {wt : Int64} (hk : vp_in kd 16) (hl_i : w.2.1 i) (hc_i : w.2.2 i = .inr (6, [.int kd, .int pl, x1, x2, x3, .int tg, .long wt, x4]))  : Met l yX6_isOf wsX6_isOf (rmz 0 0) (va_Pc [.ref (w.1 i), .int 7] (rPre D q w sz)) (va_Qi (fun (r : Int32) (u : Unit) => r = if pOf kd 7 then 1 else 0) (fun (u : Unit) tt => rPo D (rA w sz) w tt) (rA w sz)) 0 0 (rA w sz) := by
  refine r_start (cc := cX6_isOf) (maxL := 2) (ret := (some .boolean)) (by decide) rfl (Nat.le_of_ble_eq_true rfl) ?_
  intro p e s m below meth c ls hC hr hlk hnm hsz hw hl
  have hx := hC.1
  have hb := hC.2.1
  have hl : lv_has ls 2 [(0, .ref (w.1 i)), (1, .int 7)] := hl
  refine lv_iload_n hx hb dX6_isOf_0 rfl (lv_at hl 1 rfl) ?_
  refine lv_tableOut (tgt := 157) hx hb dX6_isOf_1 (by decide) (by decide) ?_
  refine lv_aload_n hx hb dX6_isOf_157 rfl (lv_at hl 0 rfl) ?_
  refine r_get hC hw rk6 in_X6_isOf_6 i hl_i hc_i 0 (by decide) lk_X6_isOf_9 (v := .int kd) rfl dX6_isOf_158 ?_
  refine lv_iload_n hx hb dX6_isOf_161 rfl (lv_at hl 1 rfl) ?_
  refine lv_icmp_ne (tgt := 169) hx hb dX6_isOf_162 (by decide) (fun c_1 => ?_) (fun c_1 => ?_)
  · refine lv_iconst (v := 0) hx hb dX6_isOf_169 (by decide) ?_
    exact r_zret hC hr (by decide) hlk hw () rfl (by simp [pOf, c_1]) (Nat.le_of_ble_eq_true rfl) (Nat.le_of_ble_eq_true rfl) dX6_isOf_170
  · refine lv_iconst (v := 1) hx hb dX6_isOf_165 (by decide) ?_
    refine lv_goto (tgt := 170) hx hb dX6_isOf_166 (by decide) ?_
    exact r_zret hC hr (by decide) hlk hw () rfl (by simp [pOf, c_1]) (Nat.le_of_ble_eq_true rfl) (Nat.le_of_ble_eq_true rfl) dX6_isOf_170

set_option maxHeartbeats 4000000 in
set_option maxRecDepth 100000 in
theorem c_X6_isOf_8 (l : Launch) {D : va_G} {q : Nat → ClassId} (w : wT) (sz : Nat) (i : Nat) {x1 x2 x3 x4 : Value} {kd pl tg : Int32} {wt : Int64} (hk : vp_in kd 16) (hl_i : w.2.1 i) (hc_i : w.2.2 i = .inr (6, [.int kd, .int pl, x1, x2, x3, .int tg, .long wt, x4]))  : Met l yX6_isOf wsX6_isOf (rmz 0 0) (va_Pc [.ref (w.1 i), .int 8] (rPre D q w sz)) (va_Qi (fun (r : Int32) (u : Unit) => r = if pOf kd 8 then 1 else 0) (fun (u : Unit) tt => rPo D (rA w sz) w tt) (rA w sz)) 0 0 (rA w sz) := by
  refine r_start (cc := cX6_isOf) (maxL := 2) (ret := (some .boolean)) (by decide) rfl (Nat.le_of_ble_eq_true rfl) ?_
  intro p e s m below meth c ls hC hr hlk hnm hsz hw hl
  have hx := hC.1
  have hb := hC.2.1
  have hl : lv_has ls 2 [(0, .ref (w.1 i)), (1, .int 8)] := hl
  refine lv_iload_n hx hb dX6_isOf_0 rfl (lv_at hl 1 rfl) ?_
  refine lv_tableIn (tgt := 52) hx hb dX6_isOf_1 (by decide) (by decide) (by rfl) (by decide) ?_
  refine lv_aload_n hx hb dX6_isOf_52 rfl (lv_at hl 0 rfl) ?_
  refine r_get hC hw rk6 in_X6_isOf_6 i hl_i hc_i 0 (by decide) lk_X6_isOf_9 (v := .int kd) rfl dX6_isOf_53 ?_
  refine lv_bipush (v := 8) hx hb dX6_isOf_56 (by decide) ?_
  refine lv_icmp_eq (tgt := 70) hx hb dX6_isOf_58 (by decide) (fun c_1 => ?_) (fun c_1 => ?_)
  · refine lv_iconst (v := 1) hx hb dX6_isOf_70 (by decide) ?_
    refine lv_goto (tgt := 75) hx hb dX6_isOf_71 (by decide) ?_
    exact r_zret hC hr (by decide) hlk hw () rfl (by simp [pOf, c_1]) (Nat.le_of_ble_eq_true rfl) (Nat.le_of_ble_eq_true rfl) dX6_isOf_75
  · refine lv_aload_n hx hb dX6_isOf_61 rfl (lv_at hl 0 rfl) ?_
    refine r_get hC hw rk6 in_X6_isOf_6 i hl_i hc_i 0 (by decide) lk_X6_isOf_9 (v := .int kd) rfl dX6_isOf_62 ?_
    refine lv_bipush (v := 9) hx hb dX6_isOf_65 (by decide) ?_
    refine lv_icmp_ne (tgt := 74) hx hb dX6_isOf_67 (by decide) (fun c_2 => ?_) (fun c_2 => ?_)
    · refine lv_iconst (v := 0) hx hb dX6_isOf_74 (by decide) ?_
      exact r_zret hC hr (by decide) hlk hw () rfl (by simp [pOf, c_1, c_2]) (Nat.le_of_ble_eq_true rfl) (Nat.le_of_ble_eq_true rfl) dX6_isOf_75
    · refine lv_iconst (v := 1) hx hb dX6_isOf_70 (by decide) ?_
      refine lv_goto (tgt := 75) hx hb dX6_isOf_71 (by decide) ?_
      exact r_zret hC hr (by decide) hlk hw () rfl (by simp [pOf, c_1, c_2]) (Nat.le_of_ble_eq_true rfl) (Nat.le_of_ble_eq_true rfl) dX6_isOf_75

set_option maxHeartbeats 4000000 in
set_option maxRecDepth 100000 in
theorem c_X6_isOf_9 (l : Launch) {D : va_G} {q : Nat → ClassId} (w : wT) (sz : Nat) (i : Nat) {x1 x2 x3 x4 : Value} {kd pl tg : Int32} {wt : Int64} (hk : vp_in kd 16) (hl_i : w.2.1 i) (hc_i : w.2.2 i = .inr (6, [.int kd, .int pl, x1, x2, x3, .int tg, .long wt, x4]))  : Met l yX6_isOf wsX6_isOf (rmz 0 0) (va_Pc [.ref (w.1 i), .int 9] (rPre D q w sz)) (va_Qi (fun (r : Int32) (u : Unit) => r = if pOf kd 9 then 1 else 0) (fun (u : Unit) tt => rPo D (rA w sz) w tt) (rA w sz)) 0 0 (rA w sz) := by
  refine r_start (cc := cX6_isOf) (maxL := 2) (ret := (some .boolean)) (by decide) rfl (Nat.le_of_ble_eq_true rfl) ?_
  intro p e s m below meth c ls hC hr hlk hnm hsz hw hl
  have hx := hC.1
  have hb := hC.2.1
  have hl : lv_has ls 2 [(0, .ref (w.1 i)), (1, .int 9)] := hl
  refine lv_iload_n hx hb dX6_isOf_0 rfl (lv_at hl 1 rfl) ?_
  refine lv_tableIn (tgt := 157) hx hb dX6_isOf_1 (by decide) (by decide) (by rfl) (by decide) ?_
  refine lv_aload_n hx hb dX6_isOf_157 rfl (lv_at hl 0 rfl) ?_
  refine r_get hC hw rk6 in_X6_isOf_6 i hl_i hc_i 0 (by decide) lk_X6_isOf_9 (v := .int kd) rfl dX6_isOf_158 ?_
  refine lv_iload_n hx hb dX6_isOf_161 rfl (lv_at hl 1 rfl) ?_
  refine lv_icmp_ne (tgt := 169) hx hb dX6_isOf_162 (by decide) (fun c_1 => ?_) (fun c_1 => ?_)
  · refine lv_iconst (v := 0) hx hb dX6_isOf_169 (by decide) ?_
    exact r_zret hC hr (by decide) hlk hw () rfl (by simp [pOf, c_1]) (Nat.le_of_ble_eq_true rfl) (Nat.le_of_ble_eq_true rfl) dX6_isOf_170
  · refine lv_iconst (v := 1) hx hb dX6_isOf_165 (by decide) ?_
    refine lv_goto (tgt := 170) hx hb dX6_isOf_166 (by decide) ?_
    exact r_zret hC hr (by decide) hlk hw () rfl (by simp [pOf, c_1]) (Nat.le_of_ble_eq_true rfl) (Nat.le_of_ble_eq_true rfl) dX6_isOf_170

set_option maxHeartbeats 4000000 in
set_option maxRecDepth 100000 in
theorem c_X6_isOf_10 (l : Launch) {D : va_G} {q : Nat → ClassId} (w : wT) (sz : Nat) (i : Nat) {x1 x2 x3 x4 : Value} {kd pl tg : Int32} {wt : Int64} (hk : vp_in kd 16) (hl_i : w.2.1 i) (hc_i : w.2.2 i = .inr (6, [.int kd, .int pl, x1, x2, x3, .int tg, .long wt, x4]))  : Met l yX6_isOf wsX6_isOf (rmz 0 0) (va_Pc [.ref (w.1 i), .int 10] (rPre D q w sz)) (va_Qi (fun (r : Int32) (u : Unit) => r = if pOf kd 10 then 1 else 0) (fun (u : Unit) tt => rPo D (rA w sz) w tt) (rA w sz)) 0 0 (rA w sz) := by
  refine r_start (cc := cX6_isOf) (maxL := 2) (ret := (some .boolean)) (by decide) rfl (Nat.le_of_ble_eq_true rfl) ?_
  intro p e s m below meth c ls hC hr hlk hnm hsz hw hl
  have hx := hC.1
  have hb := hC.2.1
  have hl : lv_has ls 2 [(0, .ref (w.1 i)), (1, .int 10)] := hl
  refine lv_iload_n hx hb dX6_isOf_0 rfl (lv_at hl 1 rfl) ?_
  refine lv_tableIn (tgt := 157) hx hb dX6_isOf_1 (by decide) (by decide) (by rfl) (by decide) ?_
  refine lv_aload_n hx hb dX6_isOf_157 rfl (lv_at hl 0 rfl) ?_
  refine r_get hC hw rk6 in_X6_isOf_6 i hl_i hc_i 0 (by decide) lk_X6_isOf_9 (v := .int kd) rfl dX6_isOf_158 ?_
  refine lv_iload_n hx hb dX6_isOf_161 rfl (lv_at hl 1 rfl) ?_
  refine lv_icmp_ne (tgt := 169) hx hb dX6_isOf_162 (by decide) (fun c_1 => ?_) (fun c_1 => ?_)
  · refine lv_iconst (v := 0) hx hb dX6_isOf_169 (by decide) ?_
    exact r_zret hC hr (by decide) hlk hw () rfl (by simp [pOf, c_1]) (Nat.le_of_ble_eq_true rfl) (Nat.le_of_ble_eq_true rfl) dX6_isOf_170
  · refine lv_iconst (v := 1) hx hb dX6_isOf_165 (by decide) ?_
    refine lv_goto (tgt := 170) hx hb dX6_isOf_166 (by decide) ?_
    exact r_zret hC hr (by decide) hlk hw () rfl (by simp [pOf, c_1]) (Nat.le_of_ble_eq_true rfl) (Nat.le_of_ble_eq_true rfl) dX6_isOf_170

set_option maxHeartbeats 4000000 in
set_option maxRecDepth 100000 in
theorem c_X6_isOf_11 (l : Launch) {D : va_G} {q : Nat → ClassId} (w : wT) (sz : Nat) (i : Nat) {x1 x2 x3 x4 : Value} {kd pl tg : Int32} {wt : Int64} (hk : vp_in kd 16) (hl_i : w.2.1 i) (hc_i : w.2.2 i = .inr (6, [.int kd, .int pl, x1, x2, x3, .int tg, .long wt, x4]))  : Met l yX6_isOf wsX6_isOf (rmz 0 0) (va_Pc [.ref (w.1 i), .int 11] (rPre D q w sz)) (va_Qi (fun (r : Int32) (u : Unit) => r = if pOf kd 11 then 1 else 0) (fun (u : Unit) tt => rPo D (rA w sz) w tt) (rA w sz)) 0 0 (rA w sz) := by
  refine r_start (cc := cX6_isOf) (maxL := 2) (ret := (some .boolean)) (by decide) rfl (Nat.le_of_ble_eq_true rfl) ?_
  intro p e s m below meth c ls hC hr hlk hnm hsz hw hl
  have hx := hC.1
  have hb := hC.2.1
  have hl : lv_has ls 2 [(0, .ref (w.1 i)), (1, .int 11)] := hl
  refine lv_iload_n hx hb dX6_isOf_0 rfl (lv_at hl 1 rfl) ?_
  refine lv_tableIn (tgt := 76) hx hb dX6_isOf_1 (by decide) (by decide) (by rfl) (by decide) ?_
  refine lv_aload_n hx hb dX6_isOf_76 rfl (lv_at hl 0 rfl) ?_
  refine r_get hC hw rk6 in_X6_isOf_6 i hl_i hc_i 0 (by decide) lk_X6_isOf_9 (v := .int kd) rfl dX6_isOf_77 ?_
  refine lv_bipush (v := 11) hx hb dX6_isOf_80 (by decide) ?_
  refine lv_icmp_eq (tgt := 103) hx hb dX6_isOf_82 (by decide) (fun c_1 => ?_) (fun c_1 => ?_)
  · refine lv_iconst (v := 1) hx hb dX6_isOf_103 (by decide) ?_
    refine lv_goto (tgt := 108) hx hb dX6_isOf_104 (by decide) ?_
    exact r_zret hC hr (by decide) hlk hw () rfl (by simp [pOf, c_1]) (Nat.le_of_ble_eq_true rfl) (Nat.le_of_ble_eq_true rfl) dX6_isOf_108
  · refine lv_aload_n hx hb dX6_isOf_85 rfl (lv_at hl 0 rfl) ?_
    refine r_get hC hw rk6 in_X6_isOf_6 i hl_i hc_i 0 (by decide) lk_X6_isOf_9 (v := .int kd) rfl dX6_isOf_86 ?_
    refine lv_bipush (v := 12) hx hb dX6_isOf_89 (by decide) ?_
    refine lv_icmp_eq (tgt := 103) hx hb dX6_isOf_91 (by decide) (fun c_2 => ?_) (fun c_2 => ?_)
    · refine lv_iconst (v := 1) hx hb dX6_isOf_103 (by decide) ?_
      refine lv_goto (tgt := 108) hx hb dX6_isOf_104 (by decide) ?_
      exact r_zret hC hr (by decide) hlk hw () rfl (by simp [pOf, c_1, c_2]) (Nat.le_of_ble_eq_true rfl) (Nat.le_of_ble_eq_true rfl) dX6_isOf_108
    · refine lv_aload_n hx hb dX6_isOf_94 rfl (lv_at hl 0 rfl) ?_
      refine r_get hC hw rk6 in_X6_isOf_6 i hl_i hc_i 0 (by decide) lk_X6_isOf_9 (v := .int kd) rfl dX6_isOf_95 ?_
      refine lv_bipush (v := 13) hx hb dX6_isOf_98 (by decide) ?_
      refine lv_icmp_ne (tgt := 107) hx hb dX6_isOf_100 (by decide) (fun c_3 => ?_) (fun c_3 => ?_)
      · refine lv_iconst (v := 0) hx hb dX6_isOf_107 (by decide) ?_
        exact r_zret hC hr (by decide) hlk hw () rfl (by simp [pOf, c_1, c_2, c_3]) (Nat.le_of_ble_eq_true rfl) (Nat.le_of_ble_eq_true rfl) dX6_isOf_108
      · refine lv_iconst (v := 1) hx hb dX6_isOf_103 (by decide) ?_
        refine lv_goto (tgt := 108) hx hb dX6_isOf_104 (by decide) ?_
        exact r_zret hC hr (by decide) hlk hw () rfl (by simp [pOf, c_1, c_2, c_3]) (Nat.le_of_ble_eq_true rfl) (Nat.le_of_ble_eq_true rfl) dX6_isOf_108

set_option maxHeartbeats 4000000 in
set_option maxRecDepth 100000 in
theorem c_X6_isOf_12 (l : Launch) {D : va_G} {q : Nat → ClassId} (w : wT) (sz : Nat) (i : Nat) {x1 x2 x3 x4 : Value} {kd pl tg : Int32} {wt : Int64} (hk : vp_in kd 16) (hl_i : w.2.1 i) (hc_i : w.2.2 i = .inr (6, [.int kd, .int pl, x1, x2, x3, .int tg, .long wt, x4]))  : Met l yX6_isOf wsX6_isOf (rmz 0 0) (va_Pc [.ref (w.1 i), .int 12] (rPre D q w sz)) (va_Qi (fun (r : Int32) (u : Unit) => r = if pOf kd 12 then 1 else 0) (fun (u : Unit) tt => rPo D (rA w sz) w tt) (rA w sz)) 0 0 (rA w sz) := by
  refine r_start (cc := cX6_isOf) (maxL := 2) (ret := (some .boolean)) (by decide) rfl (Nat.le_of_ble_eq_true rfl) ?_
  intro p e s m below meth c ls hC hr hlk hnm hsz hw hl
  have hx := hC.1
  have hb := hC.2.1
  have hl : lv_has ls 2 [(0, .ref (w.1 i)), (1, .int 12)] := hl
  refine lv_iload_n hx hb dX6_isOf_0 rfl (lv_at hl 1 rfl) ?_
  refine lv_tableIn (tgt := 109) hx hb dX6_isOf_1 (by decide) (by decide) (by rfl) (by decide) ?_
  refine lv_aload_n hx hb dX6_isOf_109 rfl (lv_at hl 0 rfl) ?_
  refine r_get hC hw rk6 in_X6_isOf_6 i hl_i hc_i 0 (by decide) lk_X6_isOf_9 (v := .int kd) rfl dX6_isOf_110 ?_
  refine lv_bipush (v := 12) hx hb dX6_isOf_113 (by decide) ?_
  refine lv_icmp_eq (tgt := 127) hx hb dX6_isOf_115 (by decide) (fun c_1 => ?_) (fun c_1 => ?_)
  · refine lv_iconst (v := 1) hx hb dX6_isOf_127 (by decide) ?_
    refine lv_goto (tgt := 132) hx hb dX6_isOf_128 (by decide) ?_
    exact r_zret hC hr (by decide) hlk hw () rfl (by simp [pOf, c_1]) (Nat.le_of_ble_eq_true rfl) (Nat.le_of_ble_eq_true rfl) dX6_isOf_132
  · refine lv_aload_n hx hb dX6_isOf_118 rfl (lv_at hl 0 rfl) ?_
    refine r_get hC hw rk6 in_X6_isOf_6 i hl_i hc_i 0 (by decide) lk_X6_isOf_9 (v := .int kd) rfl dX6_isOf_119 ?_
    refine lv_bipush (v := 13) hx hb dX6_isOf_122 (by decide) ?_
    refine lv_icmp_ne (tgt := 131) hx hb dX6_isOf_124 (by decide) (fun c_2 => ?_) (fun c_2 => ?_)
    · refine lv_iconst (v := 0) hx hb dX6_isOf_131 (by decide) ?_
      exact r_zret hC hr (by decide) hlk hw () rfl (by simp [pOf, c_1, c_2]) (Nat.le_of_ble_eq_true rfl) (Nat.le_of_ble_eq_true rfl) dX6_isOf_132
    · refine lv_iconst (v := 1) hx hb dX6_isOf_127 (by decide) ?_
      refine lv_goto (tgt := 132) hx hb dX6_isOf_128 (by decide) ?_
      exact r_zret hC hr (by decide) hlk hw () rfl (by simp [pOf, c_1, c_2]) (Nat.le_of_ble_eq_true rfl) (Nat.le_of_ble_eq_true rfl) dX6_isOf_132

set_option maxHeartbeats 4000000 in
set_option maxRecDepth 100000 in
theorem c_X6_isOf_13 (l : Launch) {D : va_G} {q : Nat → ClassId} (w : wT) (sz : Nat) (i : Nat) {x1 x2 x3 x4 : Value} {kd pl tg : Int32} {wt : Int64} (hk : vp_in kd 16) (hl_i : w.2.1 i) (hc_i : w.2.2 i = .inr (6, [.int kd, .int pl, x1, x2, x3, .int tg, .long wt, x4]))  : Met l yX6_isOf wsX6_isOf (rmz 0 0) (va_Pc [.ref (w.1 i), .int 13] (rPre D q w sz)) (va_Qi (fun (r : Int32) (u : Unit) => r = if pOf kd 13 then 1 else 0) (fun (u : Unit) tt => rPo D (rA w sz) w tt) (rA w sz)) 0 0 (rA w sz) := by
  refine r_start (cc := cX6_isOf) (maxL := 2) (ret := (some .boolean)) (by decide) rfl (Nat.le_of_ble_eq_true rfl) ?_
  intro p e s m below meth c ls hC hr hlk hnm hsz hw hl
  have hx := hC.1
  have hb := hC.2.1
  have hl : lv_has ls 2 [(0, .ref (w.1 i)), (1, .int 13)] := hl
  refine lv_iload_n hx hb dX6_isOf_0 rfl (lv_at hl 1 rfl) ?_
  refine lv_tableIn (tgt := 157) hx hb dX6_isOf_1 (by decide) (by decide) (by rfl) (by decide) ?_
  refine lv_aload_n hx hb dX6_isOf_157 rfl (lv_at hl 0 rfl) ?_
  refine r_get hC hw rk6 in_X6_isOf_6 i hl_i hc_i 0 (by decide) lk_X6_isOf_9 (v := .int kd) rfl dX6_isOf_158 ?_
  refine lv_iload_n hx hb dX6_isOf_161 rfl (lv_at hl 1 rfl) ?_
  refine lv_icmp_ne (tgt := 169) hx hb dX6_isOf_162 (by decide) (fun c_1 => ?_) (fun c_1 => ?_)
  · refine lv_iconst (v := 0) hx hb dX6_isOf_169 (by decide) ?_
    exact r_zret hC hr (by decide) hlk hw () rfl (by simp [pOf, c_1]) (Nat.le_of_ble_eq_true rfl) (Nat.le_of_ble_eq_true rfl) dX6_isOf_170
  · refine lv_iconst (v := 1) hx hb dX6_isOf_165 (by decide) ?_
    refine lv_goto (tgt := 170) hx hb dX6_isOf_166 (by decide) ?_
    exact r_zret hC hr (by decide) hlk hw () rfl (by simp [pOf, c_1]) (Nat.le_of_ble_eq_true rfl) (Nat.le_of_ble_eq_true rfl) dX6_isOf_170

set_option maxHeartbeats 4000000 in
set_option maxRecDepth 100000 in
theorem c_X6_isOf_14 (l : Launch) {D : va_G} {q : Nat → ClassId} (w : wT) (sz : Nat) (i : Nat) {x1 x2 x3 x4 : Value} {kd pl tg : Int32} {wt : Int64} (hk : vp_in kd 16) (hl_i : w.2.1 i) (hc_i : w.2.2 i = .inr (6, [.int kd, .int pl, x1, x2, x3, .int tg, .long wt, x4]))  : Met l yX6_isOf wsX6_isOf (rmz 0 0) (va_Pc [.ref (w.1 i), .int 14] (rPre D q w sz)) (va_Qi (fun (r : Int32) (u : Unit) => r = if pOf kd 14 then 1 else 0) (fun (u : Unit) tt => rPo D (rA w sz) w tt) (rA w sz)) 0 0 (rA w sz) := by
  refine r_start (cc := cX6_isOf) (maxL := 2) (ret := (some .boolean)) (by decide) rfl (Nat.le_of_ble_eq_true rfl) ?_
  intro p e s m below meth c ls hC hr hlk hnm hsz hw hl
  have hx := hC.1
  have hb := hC.2.1
  have hl : lv_has ls 2 [(0, .ref (w.1 i)), (1, .int 14)] := hl
  refine lv_iload_n hx hb dX6_isOf_0 rfl (lv_at hl 1 rfl) ?_
  refine lv_tableIn (tgt := 157) hx hb dX6_isOf_1 (by decide) (by decide) (by rfl) (by decide) ?_
  refine lv_aload_n hx hb dX6_isOf_157 rfl (lv_at hl 0 rfl) ?_
  refine r_get hC hw rk6 in_X6_isOf_6 i hl_i hc_i 0 (by decide) lk_X6_isOf_9 (v := .int kd) rfl dX6_isOf_158 ?_
  refine lv_iload_n hx hb dX6_isOf_161 rfl (lv_at hl 1 rfl) ?_
  refine lv_icmp_ne (tgt := 169) hx hb dX6_isOf_162 (by decide) (fun c_1 => ?_) (fun c_1 => ?_)
  · refine lv_iconst (v := 0) hx hb dX6_isOf_169 (by decide) ?_
    exact r_zret hC hr (by decide) hlk hw () rfl (by simp [pOf, c_1]) (Nat.le_of_ble_eq_true rfl) (Nat.le_of_ble_eq_true rfl) dX6_isOf_170
  · refine lv_iconst (v := 1) hx hb dX6_isOf_165 (by decide) ?_
    refine lv_goto (tgt := 170) hx hb dX6_isOf_166 (by decide) ?_
    exact r_zret hC hr (by decide) hlk hw () rfl (by simp [pOf, c_1]) (Nat.le_of_ble_eq_true rfl) (Nat.le_of_ble_eq_true rfl) dX6_isOf_170

set_option maxHeartbeats 4000000 in
set_option maxRecDepth 100000 in
theorem c_X6_isOf_15 (l : Launch) {D : va_G} {q : Nat → ClassId} (w : wT) (sz : Nat) (i : Nat) {x1 x2 x3 x4 : Value} {kd pl tg : Int32} {wt : Int64} (hk : vp_in kd 16) (hl_i : w.2.1 i) (hc_i : w.2.2 i = .inr (6, [.int kd, .int pl, x1, x2, x3, .int tg, .long wt, x4]))  : Met l yX6_isOf wsX6_isOf (rmz 0 0) (va_Pc [.ref (w.1 i), .int 15] (rPre D q w sz)) (va_Qi (fun (r : Int32) (u : Unit) => r = if pOf kd 15 then 1 else 0) (fun (u : Unit) tt => rPo D (rA w sz) w tt) (rA w sz)) 0 0 (rA w sz) := by
  refine r_start (cc := cX6_isOf) (maxL := 2) (ret := (some .boolean)) (by decide) rfl (Nat.le_of_ble_eq_true rfl) ?_
  intro p e s m below meth c ls hC hr hlk hnm hsz hw hl
  have hx := hC.1
  have hb := hC.2.1
  have hl : lv_has ls 2 [(0, .ref (w.1 i)), (1, .int 15)] := hl
  refine lv_iload_n hx hb dX6_isOf_0 rfl (lv_at hl 1 rfl) ?_
  refine lv_tableIn (tgt := 157) hx hb dX6_isOf_1 (by decide) (by decide) (by rfl) (by decide) ?_
  refine lv_aload_n hx hb dX6_isOf_157 rfl (lv_at hl 0 rfl) ?_
  refine r_get hC hw rk6 in_X6_isOf_6 i hl_i hc_i 0 (by decide) lk_X6_isOf_9 (v := .int kd) rfl dX6_isOf_158 ?_
  refine lv_iload_n hx hb dX6_isOf_161 rfl (lv_at hl 1 rfl) ?_
  refine lv_icmp_ne (tgt := 169) hx hb dX6_isOf_162 (by decide) (fun c_1 => ?_) (fun c_1 => ?_)
  · refine lv_iconst (v := 0) hx hb dX6_isOf_169 (by decide) ?_
    exact r_zret hC hr (by decide) hlk hw () rfl (by simp [pOf, c_1]) (Nat.le_of_ble_eq_true rfl) (Nat.le_of_ble_eq_true rfl) dX6_isOf_170
  · refine lv_iconst (v := 1) hx hb dX6_isOf_165 (by decide) ?_
    refine lv_goto (tgt := 170) hx hb dX6_isOf_166 (by decide) ?_
    exact r_zret hC hr (by decide) hlk hw () rfl (by simp [pOf, c_1]) (Nat.le_of_ble_eq_true rfl) (Nat.le_of_ble_eq_true rfl) dX6_isOf_170

set_option maxHeartbeats 4000000 in
set_option maxRecDepth 100000 in
theorem c_X6_isOf_16 (l : Launch) {D : va_G} {q : Nat → ClassId} (w : wT) (sz : Nat) (i : Nat) {x1 x2 x3 x4 : Value} {kd pl tg : Int32} {wt : Int64} (hk : vp_in kd 16) (hl_i : w.2.1 i) (hc_i : w.2.2 i = .inr (6, [.int kd, .int pl, x1, x2, x3, .int tg, .long wt, x4]))  : Met l yX6_isOf wsX6_isOf (rmz 0 0) (va_Pc [.ref (w.1 i), .int 16] (rPre D q w sz)) (va_Qi (fun (r : Int32) (u : Unit) => r = if pOf kd 16 then 1 else 0) (fun (u : Unit) tt => rPo D (rA w sz) w tt) (rA w sz)) 0 0 (rA w sz) := by
  refine r_start (cc := cX6_isOf) (maxL := 2) (ret := (some .boolean)) (by decide) rfl (Nat.le_of_ble_eq_true rfl) ?_
  intro p e s m below meth c ls hC hr hlk hnm hsz hw hl
  have hx := hC.1
  have hb := hC.2.1
  have hl : lv_has ls 2 [(0, .ref (w.1 i)), (1, .int 16)] := hl
  refine lv_iload_n hx hb dX6_isOf_0 rfl (lv_at hl 1 rfl) ?_
  refine lv_tableIn (tgt := 133) hx hb dX6_isOf_1 (by decide) (by decide) (by rfl) (by decide) ?_
  refine lv_aload_n hx hb dX6_isOf_133 rfl (lv_at hl 0 rfl) ?_
  refine r_get hC hw rk6 in_X6_isOf_6 i hl_i hc_i 0 (by decide) lk_X6_isOf_9 (v := .int kd) rfl dX6_isOf_134 ?_
  refine lv_bipush (v := 11) hx hb dX6_isOf_137 (by decide) ?_
  refine lv_icmp_lt (tgt := 155) hx hb dX6_isOf_139 (by decide) (fun c_1 => ?_) (fun c_1 => ?_)
  · refine lv_iconst (v := 0) hx hb dX6_isOf_155 (by decide) ?_
    exact r_zret hC hr (by decide) hlk hw () rfl (if_neg (fun h => of16a hk h c_1)).symm (Nat.le_of_ble_eq_true rfl) (Nat.le_of_ble_eq_true rfl) dX6_isOf_156
  · refine lv_aload_n hx hb dX6_isOf_142 rfl (lv_at hl 0 rfl) ?_
    refine r_get hC hw rk6 in_X6_isOf_6 i hl_i hc_i 0 (by decide) lk_X6_isOf_9 (v := .int kd) rfl dX6_isOf_143 ?_
    refine lv_bipush (v := 14) hx hb dX6_isOf_146 (by decide) ?_
    refine lv_icmp_gt (tgt := 155) hx hb dX6_isOf_148 (by decide) (fun c_2 => ?_) (fun c_2 => ?_)
    · refine lv_iconst (v := 0) hx hb dX6_isOf_155 (by decide) ?_
      exact r_zret hC hr (by decide) hlk hw () rfl (if_neg (fun h => of16b hk h c_2)).symm (Nat.le_of_ble_eq_true rfl) (Nat.le_of_ble_eq_true rfl) dX6_isOf_156
    · refine lv_iconst (v := 1) hx hb dX6_isOf_151 (by decide) ?_
      refine lv_goto (tgt := 156) hx hb dX6_isOf_152 (by decide) ?_
      exact r_zret hC hr (by decide) hlk hw () rfl (if_pos (of16 c_1 c_2)).symm (Nat.le_of_ble_eq_true rfl) (Nat.le_of_ble_eq_true rfl) dX6_isOf_156

set_option maxHeartbeats 4000000 in
set_option maxRecDepth 100000 in
theorem c_X6_getNumber (l : Launch) {D : va_G} {q : Nat → ClassId} (w : wT) (sz : Nat) (i j : Nat) {f : Nat → Int64} {x1 x2 x3 x4 : Value} {kd pl tg : Int32} {wt : Int64} {n : Nat} (r0 : Int32) (hl_i : w.2.1 i) (hc_i : w.2.2 i = .inr (6, [.int kd, .int pl, .ref (w.1 j), x2, x3, .int tg, .long wt, x4])) (hl_j : w.2.1 j) (hc_j : w.2.2 j = .inl (q 1, n, .inr (.inl f)))  : Met l yX6_getNumber wsX6_getNumber (rmz 0 0) (va_Pc [.ref (w.1 i), .int r0] (rPre D q w sz)) (va_Ql (fun (r : Int64) (u : Unit) => r = gN n f 0 r0) (fun (u : Unit) tt => rPo D (rA w sz) w tt) (rA w sz)) 0 0 (rA w sz) := by
  refine r_start (cc := cX6_getNumber) (maxL := 2) (ret := (some .long)) (by decide) rfl (Nat.le_of_ble_eq_true rfl) ?_
  intro p e s m below meth c ls hC hr hlk hnm hsz hw hl
  have hx := hC.1
  have hb := hC.2.1
  have hl : lv_has ls 2 [(0, .ref (w.1 i)), (1, .int r0)] := hl
  refine lv_iload_n hx hb dX6_getNumber_0 rfl (lv_at hl 1 rfl) ?_
  refine lv_if_lt (tgt := 22) hx hb dX6_getNumber_1 (by decide) (fun c_1 => ?_) (fun c_1 => ?_)
  · refine lv_lconst (v := 0) hx hb dX6_getNumber_22 (by decide) ?_
    exact r_lret hC hr hlk hw () rfl (if_neg (Int32.not_le.mpr c_1)).symm (Nat.le_of_ble_eq_true rfl) (Nat.le_of_ble_eq_true rfl) dX6_getNumber_23
  · refine lv_iload_n hx hb dX6_getNumber_4 rfl (lv_at hl 1 rfl) ?_
    refine lv_aload_n hx hb dX6_getNumber_5 rfl (lv_at hl 0 rfl) ?_
    refine r_get hC hw rk6 in_X6_getNumber_6 i hl_i hc_i 2 (by decide) lk_X6_getNumber_18 (v := .ref (w.1 j)) rfl dX6_getNumber_6 ?_
    refine r_alen hC hw 1 rfl j hl_j hc_j (v := nI n) rfl dX6_getNumber_9 ?_
    refine lv_icmp_ge (tgt := 22) hx hb dX6_getNumber_10 (by decide) (fun c_2 => ?_) (fun c_2 => ?_)
    · refine lv_lconst (v := 0) hx hb dX6_getNumber_22 (by decide) ?_
      exact r_lret hC hr hlk hw () rfl ((if_pos (Int32.not_lt.mp c_1)).trans (if_pos c_2)).symm (Nat.le_of_ble_eq_true rfl) (Nat.le_of_ble_eq_true rfl) dX6_getNumber_23
    · refine lv_aload_n hx hb dX6_getNumber_13 rfl (lv_at hl 0 rfl) ?_
      refine r_get hC hw rk6 in_X6_getNumber_6 i hl_i hc_i 2 (by decide) lk_X6_getNumber_18 (v := .ref (w.1 j)) rfl dX6_getNumber_14 ?_
      refine lv_iload_n hx hb dX6_getNumber_17 rfl (lv_at hl 1 rfl) ?_
      refine r_lald hC hw j hl_j hc_j (inN c_1 c_2) dX6_getNumber_18 ?_
      refine lv_goto (tgt := 23) hx hb dX6_getNumber_19 (by decide) ?_
      exact r_lret hC hr hlk hw () rfl ((if_pos (Int32.not_lt.mp c_1)).trans (if_neg c_2)).symm (Nat.le_of_ble_eq_true rfl) (Nat.le_of_ble_eq_true rfl) dX6_getNumber_23

set_option maxHeartbeats 4000000 in
set_option maxRecDepth 100000 in
theorem c_X6_setNumber (l : Launch) {D : va_G} {q : Nat → ClassId} (w : wT) (sz : Nat) (i j : Nat) {f : Nat → Int64} {x1 x2 x3 x4 : Value} {kd pl tg : Int32} {wt : Int64} {n : Nat} (r0 : Int32) (v : Int64) (hr0 : vp_in r0 n) (hn : n < 2 ^ 31) (hl_i : w.2.1 i) (hc_i : w.2.2 i = .inr (6, [.int kd, .int pl, .ref (w.1 j), x2, x3, .int tg, .long wt, x4])) (hl_j : w.2.1 j) (hc_j : w.2.2 j = .inl (q 1, n, .inr (.inl f)))  : Met l yX6_setNumber wsX6_setNumber (rmz 0 0) (va_Pc [.ref (w.1 i), .int r0, .long v] (rPre D q w sz)) (va_Qv (fun (u : Unit) => True) (fun (u : Unit) tt => rPo D (rA w sz) (wU w j (.inl (q 1, n, .inr (.inl (va_up f (aN r0) v))))) tt) (rA w sz)) 0 0 (rA w sz) := by
  refine r_start (cc := cX6_setNumber) (maxL := 4) (ret := none) (by decide) rfl (Nat.le_of_ble_eq_true rfl) ?_
  intro p e s m below meth c ls hC hr hlk hnm hsz hw hl
  have hx := hC.1
  have hb := hC.2.1
  have hl : lv_has ls 4 [(0, .ref (w.1 i)), (1, .int r0), (2, .long v)] := hl
  refine lv_iload_n hx hb dX6_setNumber_0 rfl (lv_at hl 1 rfl) ?_
  refine lv_if_lt (tgt := 20) hx hb dX6_setNumber_1 (by decide) (fun c_ => absurd c_ (hN_toN hr0)) (fun _ => ?_)
  refine lv_iload_n hx hb dX6_setNumber_4 rfl (lv_at hl 1 rfl) ?_
  refine lv_aload_n hx hb dX6_setNumber_5 rfl (lv_at hl 0 rfl) ?_
  refine r_get hC hw rk6 in_X6_setNumber_6 i hl_i hc_i 2 (by decide) lk_X6_setNumber_18 (v := .ref (w.1 j)) rfl dX6_setNumber_6 ?_
  refine r_alen hC hw 1 rfl j hl_j hc_j (v := nI n) rfl dX6_setNumber_9 ?_
  refine lv_icmp_ge (tgt := 20) hx hb dX6_setNumber_10 (by decide) (fun c_ => absurd c_ (in_nle hr0 hn)) (fun _ => ?_)
  refine lv_aload_n hx hb dX6_setNumber_13 rfl (lv_at hl 0 rfl) ?_
  refine r_get hC hw rk6 in_X6_setNumber_6 i hl_i hc_i 2 (by decide) lk_X6_setNumber_18 (v := .ref (w.1 j)) rfl dX6_setNumber_14 ?_
  refine lv_iload_n hx hb dX6_setNumber_17 rfl (lv_at hl 1 rfl) ?_
  refine lv_lload_n hx hb dX6_setNumber_18 rfl (lv_at hl 2 rfl) ?_
  refine r_last hC hw j hl_j hc_j hr0 dX6_setNumber_19 (fun H locs hw => ?_)
  exact r_vret hC hr hlk hw () rfl trivial (Nat.le_of_ble_eq_true rfl) (Nat.le_of_ble_eq_true rfl) dX6_setNumber_20

set_option maxHeartbeats 4000000 in
set_option maxRecDepth 100000 in
theorem c_X6_getPoint (l : Launch) {D : va_G} {q : Nat → ClassId} (w : wT) (sz : Nat) (i j : Nat) {f : Nat → UInt64} {x1 x2 x3 x4 : Value} {kd pl tg : Int32} {wt : Int64} {n : Nat} (r0 : Int32) (hl_i : w.2.1 i) (hc_i : w.2.2 i = .inr (6, [.int kd, .int pl, x1, .ref (w.1 j), x3, .int tg, .long wt, x4])) (hl_j : w.2.1 j) (hc_j : w.2.2 j = .inl (q 3, n, .inr (.inr (.inr (.inl f)))))  : Met l yX6_getPoint wsX6_getPoint (rmz 0 0) (va_Pc [.ref (w.1 i), .int r0] (rPre D q w sz)) (va_Qd (fun (r : UInt64) (u : Unit) => r = gN n f FP.dconst0 r0) (fun (u : Unit) tt => rPo D (rA w sz) w tt) (rA w sz)) 0 0 (rA w sz) := by
  refine r_start (cc := cX6_getPoint) (maxL := 2) (ret := (some .double)) (by decide) rfl (Nat.le_of_ble_eq_true rfl) ?_
  intro p e s m below meth c ls hC hr hlk hnm hsz hw hl
  have hx := hC.1
  have hb := hC.2.1
  have hl : lv_has ls 2 [(0, .ref (w.1 i)), (1, .int r0)] := hl
  refine lv_iload_n hx hb dX6_getPoint_0 rfl (lv_at hl 1 rfl) ?_
  refine lv_if_lt (tgt := 22) hx hb dX6_getPoint_1 (by decide) (fun c_1 => ?_) (fun c_1 => ?_)
  · refine lv_dconst0 hx hb dX6_getPoint_22 ?_
    exact r_dret hC hr hlk hw () rfl (if_neg (Int32.not_le.mpr c_1)).symm (Nat.le_of_ble_eq_true rfl) (Nat.le_of_ble_eq_true rfl) dX6_getPoint_23
  · refine lv_iload_n hx hb dX6_getPoint_4 rfl (lv_at hl 1 rfl) ?_
    refine lv_aload_n hx hb dX6_getPoint_5 rfl (lv_at hl 0 rfl) ?_
    refine r_get hC hw rk6 in_X6_getPoint_6 i hl_i hc_i 3 (by decide) lk_X6_getPoint_22 (v := .ref (w.1 j)) rfl dX6_getPoint_6 ?_
    refine r_alen hC hw 3 rfl j hl_j hc_j (v := nI n) rfl dX6_getPoint_9 ?_
    refine lv_icmp_ge (tgt := 22) hx hb dX6_getPoint_10 (by decide) (fun c_2 => ?_) (fun c_2 => ?_)
    · refine lv_dconst0 hx hb dX6_getPoint_22 ?_
      exact r_dret hC hr hlk hw () rfl ((if_pos (Int32.not_lt.mp c_1)).trans (if_pos c_2)).symm (Nat.le_of_ble_eq_true rfl) (Nat.le_of_ble_eq_true rfl) dX6_getPoint_23
    · refine lv_aload_n hx hb dX6_getPoint_13 rfl (lv_at hl 0 rfl) ?_
      refine r_get hC hw rk6 in_X6_getPoint_6 i hl_i hc_i 3 (by decide) lk_X6_getPoint_22 (v := .ref (w.1 j)) rfl dX6_getPoint_14 ?_
      refine lv_iload_n hx hb dX6_getPoint_17 rfl (lv_at hl 1 rfl) ?_
      refine r_dald hC hw j hl_j hc_j (inN c_1 c_2) dX6_getPoint_18 ?_
      refine lv_goto (tgt := 23) hx hb dX6_getPoint_19 (by decide) ?_
      exact r_dret hC hr hlk hw () rfl ((if_pos (Int32.not_lt.mp c_1)).trans (if_neg c_2)).symm (Nat.le_of_ble_eq_true rfl) (Nat.le_of_ble_eq_true rfl) dX6_getPoint_23

set_option maxHeartbeats 4000000 in
set_option maxRecDepth 100000 in
theorem c_X6_setPoint (l : Launch) {D : va_G} {q : Nat → ClassId} (w : wT) (sz : Nat) (i j : Nat) {f : Nat → UInt64} {x1 x2 x3 x4 : Value} {kd pl tg : Int32} {wt : Int64} {n : Nat} (r0 : Int32) (v : UInt64) (hr0 : vp_in r0 n) (hn : n < 2 ^ 31) (hl_i : w.2.1 i) (hc_i : w.2.2 i = .inr (6, [.int kd, .int pl, x1, .ref (w.1 j), x3, .int tg, .long wt, x4])) (hl_j : w.2.1 j) (hc_j : w.2.2 j = .inl (q 3, n, .inr (.inr (.inr (.inl f)))))  : Met l yX6_setPoint wsX6_setPoint (rmz 0 0) (va_Pc [.ref (w.1 i), .int r0, .double v] (rPre D q w sz)) (va_Qv (fun (u : Unit) => True) (fun (u : Unit) tt => rPo D (rA w sz) (wU w j (.inl (q 3, n, .inr (.inr (.inr (.inl (va_up f (aN r0) v))))))) tt) (rA w sz)) 0 0 (rA w sz) := by
  refine r_start (cc := cX6_setPoint) (maxL := 4) (ret := none) (by decide) rfl (Nat.le_of_ble_eq_true rfl) ?_
  intro p e s m below meth c ls hC hr hlk hnm hsz hw hl
  have hx := hC.1
  have hb := hC.2.1
  have hl : lv_has ls 4 [(0, .ref (w.1 i)), (1, .int r0), (2, .double v)] := hl
  refine lv_iload_n hx hb dX6_setPoint_0 rfl (lv_at hl 1 rfl) ?_
  refine lv_if_lt (tgt := 20) hx hb dX6_setPoint_1 (by decide) (fun c_ => absurd c_ (hN_toN hr0)) (fun _ => ?_)
  refine lv_iload_n hx hb dX6_setPoint_4 rfl (lv_at hl 1 rfl) ?_
  refine lv_aload_n hx hb dX6_setPoint_5 rfl (lv_at hl 0 rfl) ?_
  refine r_get hC hw rk6 in_X6_setPoint_6 i hl_i hc_i 3 (by decide) lk_X6_setPoint_22 (v := .ref (w.1 j)) rfl dX6_setPoint_6 ?_
  refine r_alen hC hw 3 rfl j hl_j hc_j (v := nI n) rfl dX6_setPoint_9 ?_
  refine lv_icmp_ge (tgt := 20) hx hb dX6_setPoint_10 (by decide) (fun c_ => absurd c_ (in_nle hr0 hn)) (fun _ => ?_)
  refine lv_aload_n hx hb dX6_setPoint_13 rfl (lv_at hl 0 rfl) ?_
  refine r_get hC hw rk6 in_X6_setPoint_6 i hl_i hc_i 3 (by decide) lk_X6_setPoint_22 (v := .ref (w.1 j)) rfl dX6_setPoint_14 ?_
  refine lv_iload_n hx hb dX6_setPoint_17 rfl (lv_at hl 1 rfl) ?_
  refine lv_dload_n hx hb dX6_setPoint_18 rfl (lv_at hl 2 rfl) ?_
  refine r_dast hC hw j hl_j hc_j hr0 dX6_setPoint_19 (fun H locs hw => ?_)
  exact r_vret hC hr hlk hw () rfl trivial (Nat.le_of_ble_eq_true rfl) (Nat.le_of_ble_eq_true rfl) dX6_setPoint_20

set_option maxHeartbeats 4000000 in
set_option maxRecDepth 100000 in
theorem c_X6_getMember (l : Launch) {D : va_G} {q : Nat → ClassId} (w : wT) (sz : Nat) (i j : Nat) {f : Nat → Option Nat} {x1 x2 x3 x4 : Value} {kd pl tg : Int32} {wt : Int64} {n : Nat} (r0 : Int32) (hl_i : w.2.1 i) (hc_i : w.2.2 i = .inr (6, [.int kd, .int pl, x1, x2, .ref (w.1 j), .int tg, .long wt, x4])) (hl_j : w.2.1 j) (hc_j : w.2.2 j = .inl (q 6, n, .inr (.inr (.inr (.inr f)))))  : Met l yX6_getMember wsX6_getMember (rmz 0 0) (va_Pc [.ref (w.1 i), .int r0] (rPre D q w sz)) (va_Qq (fun (r : Option Nat) (u : Unit) => r = gN n f none r0) (fun (u : Unit) tt => rPo D (rA w sz) w tt) (rA w sz)) 0 0 (rA w sz) := by
  refine r_start (cc := cX6_getMember) (maxL := 2) (ret := (some (.object "FaultLoom$Thing"))) (by decide) rfl (Nat.le_of_ble_eq_true rfl) ?_
  intro p e s m below meth c ls hC hr hlk hnm hsz hw hl
  have hx := hC.1
  have hb := hC.2.1
  have hl : lv_has ls 2 [(0, .ref (w.1 i)), (1, .int r0)] := hl
  refine lv_iload_n hx hb dX6_getMember_0 rfl (lv_at hl 1 rfl) ?_
  refine lv_if_lt (tgt := 22) hx hb dX6_getMember_1 (by decide) (fun c_1 => ?_) (fun c_1 => ?_)
  · refine lv_null hx hb dX6_getMember_22 ?_
    refine r_tops (y := [va_rf none]) rfl ?_
    exact r_qret hC hr hlk hw () rfl (if_neg (Int32.not_le.mpr c_1)).symm (Nat.le_of_ble_eq_true rfl) (Nat.le_of_ble_eq_true rfl) dX6_getMember_23
  · refine lv_iload_n hx hb dX6_getMember_4 rfl (lv_at hl 1 rfl) ?_
    refine lv_aload_n hx hb dX6_getMember_5 rfl (lv_at hl 0 rfl) ?_
    refine r_get hC hw rk6 in_X6_getMember_6 i hl_i hc_i 4 (by decide) lk_X6_getMember_26 (v := .ref (w.1 j)) rfl dX6_getMember_6 ?_
    refine r_alen hC hw 6 rfl j hl_j hc_j (v := nI n) rfl dX6_getMember_9 ?_
    refine lv_icmp_ge (tgt := 22) hx hb dX6_getMember_10 (by decide) (fun c_2 => ?_) (fun c_2 => ?_)
    · refine lv_null hx hb dX6_getMember_22 ?_
      refine r_tops (y := [va_rf none]) rfl ?_
      exact r_qret hC hr hlk hw () rfl ((if_pos (Int32.not_lt.mp c_1)).trans (if_pos c_2)).symm (Nat.le_of_ble_eq_true rfl) (Nat.le_of_ble_eq_true rfl) dX6_getMember_23
    · refine lv_aload_n hx hb dX6_getMember_13 rfl (lv_at hl 0 rfl) ?_
      refine r_get hC hw rk6 in_X6_getMember_6 i hl_i hc_i 4 (by decide) lk_X6_getMember_26 (v := .ref (w.1 j)) rfl dX6_getMember_14 ?_
      refine lv_iload_n hx hb dX6_getMember_17 rfl (lv_at hl 1 rfl) ?_
      refine r_aald hC hw 6 rfl j hl_j hc_j (inN c_1 c_2) dX6_getMember_18 ?_
      refine lv_goto (tgt := 23) hx hb dX6_getMember_19 (by decide) ?_
      exact r_qret hC hr hlk hw () rfl ((if_pos (Int32.not_lt.mp c_1)).trans (if_neg c_2)).symm (Nat.le_of_ble_eq_true rfl) (Nat.le_of_ble_eq_true rfl) dX6_getMember_23

set_option maxHeartbeats 4000000 in
set_option maxRecDepth 100000 in
theorem c_X6_setMemberN (l : Launch) {D : va_G} {q : Nat → ClassId} (w : wT) (sz : Nat) (i j : Nat) {f : Nat → Option Nat} {x1 x2 x3 x4 : Value} {kd pl tg : Int32} {wt : Int64} {n : Nat} (r0 : Int32) (hr0 : vp_in r0 n) (hn : n < 2 ^ 31) (hl_i : w.2.1 i) (hc_i : w.2.2 i = .inr (6, [.int kd, .int pl, x1, x2, .ref (w.1 j), .int tg, .long wt, x4])) (hl_j : w.2.1 j) (hc_j : w.2.2 j = .inl (q 6, n, .inr (.inr (.inr (.inr f)))))  : Met l yX6_setMember wsX6_setMember (rmz 0 0) (va_Pc [.ref (w.1 i), .int r0, .null] (rPre D q w sz)) (va_Qv (fun (u : Unit) => True) (fun (u : Unit) tt => rPo D (rA w sz) (wU w j (.inl (q 6, n, .inr (.inr (.inr (.inr (va_up f (aN r0) none))))))) tt) (rA w sz)) 0 0 (rA w sz) := by
  refine r_start (cc := cX6_setMember) (maxL := 3) (ret := none) (by decide) rfl (Nat.le_of_ble_eq_true rfl) ?_
  intro p e s m below meth c ls hC hr hlk hnm hsz hw hl
  have hx := hC.1
  have hb := hC.2.1
  have hl : lv_has ls 3 [(0, .ref (w.1 i)), (1, .int r0), (2, .null)] := hl
  refine lv_iload_n hx hb dX6_setMember_0 rfl (lv_at hl 1 rfl) ?_
  refine lv_if_lt (tgt := 20) hx hb dX6_setMember_1 (by decide) (fun c_ => absurd c_ (hN_toN hr0)) (fun _ => ?_)
  refine lv_iload_n hx hb dX6_setMember_4 rfl (lv_at hl 1 rfl) ?_
  refine lv_aload_n hx hb dX6_setMember_5 rfl (lv_at hl 0 rfl) ?_
  refine r_get hC hw rk6 in_X6_setMember_6 i hl_i hc_i 4 (by decide) lk_X6_setMember_26 (v := .ref (w.1 j)) rfl dX6_setMember_6 ?_
  refine r_alen hC hw 6 rfl j hl_j hc_j (v := nI n) rfl dX6_setMember_9 ?_
  refine lv_icmp_ge (tgt := 20) hx hb dX6_setMember_10 (by decide) (fun c_ => absurd c_ (in_nle hr0 hn)) (fun _ => ?_)
  refine lv_aload_n hx hb dX6_setMember_13 rfl (lv_at hl 0 rfl) ?_
  refine r_get hC hw rk6 in_X6_setMember_6 i hl_i hc_i 4 (by decide) lk_X6_setMember_26 (v := .ref (w.1 j)) rfl dX6_setMember_14 ?_
  refine lv_iload_n hx hb dX6_setMember_17 rfl (lv_at hl 1 rfl) ?_
  refine lv_aload_nN hx hb dX6_setMember_18 rfl (lv_at hl 2 rfl) ?_
  refine r_aastN hC hw 6 rfl j hl_j hc_j hr0 dX6_setMember_19 (fun H locs hw => ?_)
  exact r_vret hC hr hlk hw () rfl trivial (Nat.le_of_ble_eq_true rfl) (Nat.le_of_ble_eq_true rfl) dX6_setMember_20

set_option maxHeartbeats 4000000 in
set_option maxRecDepth 100000 in
theorem c_X6_setMember (l : Launch) {D : va_G} {q : Nat → ClassId} (w : wT) (sz : Nat) (i k j : Nat) {f : Nat → Option Nat} {x1 x2 x3 x4 : Value} {kd pl tg : Int32} {wt : Int64} {z1 z2 z3 z4 z5 z6 z7 z8 : Value} {n : Nat} (r0 : Int32) (hr0 : vp_in r0 n) (hn : n < 2 ^ 31) (hl_i : w.2.1 i) (hc_i : w.2.2 i = .inr (6, [.int kd, .int pl, x1, x2, .ref (w.1 j), .int tg, .long wt, x4])) (hl_k : w.2.1 k) (hc_k : w.2.2 k = .inr (6, [z1, z2, z3, z4, z5, z6, z7, z8])) (hl_j : w.2.1 j) (hc_j : w.2.2 j = .inl (q 6, n, .inr (.inr (.inr (.inr f)))))  : Met l yX6_setMember wsX6_setMember (rmz 0 0) (va_Pc [.ref (w.1 i), .int r0, .ref (w.1 k)] (rPre D q w sz)) (va_Qv (fun (u : Unit) => True) (fun (u : Unit) tt => rPo D (rA w sz) (wU w j (.inl (q 6, n, .inr (.inr (.inr (.inr (va_up f (aN r0) (some (w.1 k))))))))) tt) (rA w sz)) 0 0 (rA w sz) := by
  refine r_start (cc := cX6_setMember) (maxL := 3) (ret := none) (by decide) rfl (Nat.le_of_ble_eq_true rfl) ?_
  intro p e s m below meth c ls hC hr hlk hnm hsz hw hl
  have hx := hC.1
  have hb := hC.2.1
  have hl : lv_has ls 3 [(0, .ref (w.1 i)), (1, .int r0), (2, .ref (w.1 k))] := hl
  refine lv_iload_n hx hb dX6_setMember_0 rfl (lv_at hl 1 rfl) ?_
  refine lv_if_lt (tgt := 20) hx hb dX6_setMember_1 (by decide) (fun c_ => absurd c_ (hN_toN hr0)) (fun _ => ?_)
  refine lv_iload_n hx hb dX6_setMember_4 rfl (lv_at hl 1 rfl) ?_
  refine lv_aload_n hx hb dX6_setMember_5 rfl (lv_at hl 0 rfl) ?_
  refine r_get hC hw rk6 in_X6_setMember_6 i hl_i hc_i 4 (by decide) lk_X6_setMember_26 (v := .ref (w.1 j)) rfl dX6_setMember_6 ?_
  refine r_alen hC hw 6 rfl j hl_j hc_j (v := nI n) rfl dX6_setMember_9 ?_
  refine lv_icmp_ge (tgt := 20) hx hb dX6_setMember_10 (by decide) (fun c_ => absurd c_ (in_nle hr0 hn)) (fun _ => ?_)
  refine lv_aload_n hx hb dX6_setMember_13 rfl (lv_at hl 0 rfl) ?_
  refine r_get hC hw rk6 in_X6_setMember_6 i hl_i hc_i 4 (by decide) lk_X6_setMember_26 (v := .ref (w.1 j)) rfl dX6_setMember_14 ?_
  refine lv_iload_n hx hb dX6_setMember_17 rfl (lv_at hl 1 rfl) ?_
  refine lv_aload_n hx hb dX6_setMember_18 rfl (lv_at hl 2 rfl) ?_
  refine r_aast hC hw 6 rk6 rfl j hl_j hc_j hr0 k hl_k hc_k dX6_setMember_19 (fun H locs hw => ?_)
  exact r_vret hC hr hlk hw () rfl trivial (Nat.le_of_ble_eq_true rfl) (Nat.le_of_ble_eq_true rfl) dX6_setMember_20

set_option maxHeartbeats 4000000 in
set_option maxRecDepth 100000 in
theorem c_X0_names (l : Launch) {D : va_G} {q : Nat → ClassId} (w : wT) (sz : Nat) (i : Nat) {h1 h2 h3 h4 : Int32} (p0 f0 : Int32) (hl_i : w.2.1 i) (hc_i : w.2.2 i = .inr (0, [.int h1, .int h2, .int h3, .int h4]))  : Met l yX0_names wsX0_names (rmz 0 0) (va_Pc [.ref (w.1 i), .int p0, .int f0] (rPre D q w sz)) (va_Qi (fun (r : Int32) (u : Unit) => r = if h1 ≤ p0 then (if h2 ≤ p0 then 0 else (if ((h3.toUInt32 >>> (f0.toUInt32 &&& Int32.toUInt32 31)).toInt32) &&& 1 = 1 then 1 else 0)) else 0) (fun (u : Unit) tt => rPo D (rA w sz) w tt) (rA w sz)) 0 0 (rA w sz) := by
  refine r_start (cc := cX0_names) (maxL := 3) (ret := (some .boolean)) (by decide) rfl (Nat.le_of_ble_eq_true rfl) ?_
  intro p e s m below meth c ls hC hr hlk hnm hsz hw hl
  have hx := hC.1
  have hb := hC.2.1
  have hl : lv_has ls 3 [(0, .ref (w.1 i)), (1, .int p0), (2, .int f0)] := hl
  refine lv_iload_n hx hb dX0_names_0 rfl (lv_at hl 1 rfl) ?_
  refine lv_aload_n hx hb dX0_names_1 rfl (lv_at hl 0 rfl) ?_
  refine r_get hC hw rk0 in_X0_names_0 i hl_i hc_i 0 (by decide) lk_X0_names_7 (v := .int h1) rfl dX0_names_2 ?_
  refine lv_icmp_lt (tgt := 32) hx hb dX0_names_5 (by decide) (fun c_1 => ?_) (fun c_1 => ?_)
  · refine lv_iconst (v := 0) hx hb dX0_names_32 (by decide) ?_
    exact r_zret hC hr (by decide) hlk hw () rfl (if_neg (Int32.not_le.mpr c_1)).symm (Nat.le_of_ble_eq_true rfl) (Nat.le_of_ble_eq_true rfl) dX0_names_33
  · refine lv_iload_n hx hb dX0_names_8 rfl (lv_at hl 1 rfl) ?_
    refine lv_aload_n hx hb dX0_names_9 rfl (lv_at hl 0 rfl) ?_
    refine r_get hC hw rk0 in_X0_names_0 i hl_i hc_i 1 (by decide) lk_X0_names_13 (v := .int h2) rfl dX0_names_10 ?_
    refine lv_icmp_ge (tgt := 32) hx hb dX0_names_13 (by decide) (fun c_2 => ?_) (fun c_2 => ?_)
    · refine lv_iconst (v := 0) hx hb dX0_names_32 (by decide) ?_
      exact r_zret hC hr (by decide) hlk hw () rfl ((if_pos (Int32.not_lt.mp c_1)).trans (if_pos c_2)).symm (Nat.le_of_ble_eq_true rfl) (Nat.le_of_ble_eq_true rfl) dX0_names_33
    · refine lv_aload_n hx hb dX0_names_16 rfl (lv_at hl 0 rfl) ?_
      refine r_get hC hw rk0 in_X0_names_0 i hl_i hc_i 2 (by decide) lk_X0_names_16 (v := .int h3) rfl dX0_names_17 ?_
      refine lv_iload_n hx hb dX0_names_20 rfl (lv_at hl 2 rfl) ?_
      refine lv_iushr (v := (h3.toUInt32 >>> (f0.toUInt32 &&& Int32.toUInt32 31)).toInt32) hx hb dX0_names_21 rfl ?_
      refine lv_iconst (v := 1) hx hb dX0_names_22 (by decide) ?_
      refine lv_iand hx hb dX0_names_23 ?_
      refine lv_iconst (v := 1) hx hb dX0_names_24 (by decide) ?_
      refine lv_icmp_ne (tgt := 32) hx hb dX0_names_25 (by decide) (fun c_3 => ?_) (fun c_3 => ?_)
      · refine lv_iconst (v := 0) hx hb dX0_names_32 (by decide) ?_
        exact r_zret hC hr (by decide) hlk hw () rfl ((if_pos (Int32.not_lt.mp c_1)).trans ((if_neg c_2).trans (if_neg c_3))).symm (Nat.le_of_ble_eq_true rfl) (Nat.le_of_ble_eq_true rfl) dX0_names_33
      · refine lv_iconst (v := 1) hx hb dX0_names_28 (by decide) ?_
        refine lv_goto (tgt := 33) hx hb dX0_names_29 (by decide) ?_
        exact r_zret hC hr (by decide) hlk hw () rfl ((if_pos (Int32.not_lt.mp c_1)).trans ((if_neg c_2).trans (if_pos c_3))).symm (Nat.le_of_ble_eq_true rfl) (Nat.le_of_ble_eq_true rfl) dX0_names_33

