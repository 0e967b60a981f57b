theorem c_X3_setThingQ (l : Launch) {D : va_G} {q : Nat → ClassId} (w : wT) (sz : Nat) (i j : Nat) {f : Nat → Option Nat} {x1 x2 x3 x4 : Value} (r0 : Int32) (x : Option Nat) (hr0 : vp_in r0 8) (hx : ∀ k, x = some k → w.2.1 k ∧ ∃ z1 z2 z3 z4 z5 z6 z7 z8, w.2.2 k = .inr (6, [z1, z2, z3, z4, z5, z6, z7, z8])) (hl_i : w.2.1 i) (hc_i : w.2.2 i = .inr (3, [x1, x2, x3, x4, .ref (w.1 j)])) (hl_j : w.2.1 j) (hc_j : w.2.2 j = .inl (q 6, 8, .inr (.inr (.inr (.inr f))))) : Met l yX3_setThing wsX3_setThing (rmz 0 0) (va_Pc [.ref (w.1 i), .int r0, va_rf (x.map w.1)] (rPre D q w sz)) (va_Qv (fun (u : Unit) => True) (fun (u : Unit) tt => rPo D (rA w sz) (wU w j (.inl (q 6, 8, .inr (.inr (.inr (.inr (va_up f (aN r0) (x.map w.1)))))))) tt) (rA w sz)) 0 0 (rA w sz) := by
  cases x with
  | none => exact c_X3_setThingN l w sz i j r0 hr0 hl_i hc_i hl_j hc_j
  | some k =>
    obtain ⟨h1, z1, z2, z3, z4, z5, z6, z7, z8, h2⟩ := hx k rfl
    exact c_X3_setThing l w sz i k j r0 hr0 hl_i hc_i h1 h2 hl_j hc_j
theorem rf_n (x : Option Nat) (C : String) : narrow (.object C) (va_rf x) = va_rf x := by cases x <;> rfl
theorem rf_f (x : Option Nat) (C : String) : fits (.object C) (va_rf x) = true := by cases x <;> rfl
theorem rT_live {q : Nat → ClassId} {ad : Nat → Nat} {κ : KS} {τ : TAU} {v : Int32} (hv : ¬ v = 0 → aN (v - 1) < aN (sI κ 2)) (h60 : aN (sI κ 2) ≤ 60) : ∀ k, rT v = some k → (wX q ad κ τ).2.1 k ∧ ∃ z1 z2 z3 z4 z5 z6 z7 z8, (wX q ad κ τ).2.2 k = .inr (6, [z1, z2, z3, z4, z5, z6, z7, z8]) := by
  intro k hk
  by_cases h : v = 0
  · rw [rT0 h] at hk; cases hk
  · rw [rT1 h] at hk
    cases hk
    exact ⟨thl (hv h), _, _, _, _, _, _, _, _, thc (Nat.lt_of_lt_of_le (hv h) h60)⟩
theorem getNum {κ : KS} {k : Nat} {w : Int32} (hk : sA κ 4 k ≤ 5) (hv : vp_in w (aN (sA κ 5 k))) (h12 : aN w < 12) : gN (lnN κ k) (tr 0 (sJ κ 1) k) 0 w = sJ κ 1 (12 * k + aN w) := by
  have e : lnN κ k = aN (sA κ 5 k) := if_pos hk
  rw [e, gN_in hv (by have := Int32.toNatClampNeg_lt (sA κ 5 k); omega)]
  exact if_pos h12
theorem getPt {κ : KS} {k : Nat} {w : Int32} (hk : sA κ 4 k = 6 ∨ sA κ 4 k = 7) (hv : vp_in w (aN (sA κ 5 k))) (h12 : aN w < 12) : gN (lnP κ k) (tr FP.dconst0 (sD κ 1) k) FP.dconst0 w = sD κ 1 (12 * k + aN w) := by
  have e : lnP κ k = aN (sA κ 5 k) := if_pos hk
  rw [e, gN_in hv (by have := Int32.toNatClampNeg_lt (sA κ 5 k); omega)]
  exact if_pos h12
theorem getMem {κ : KS} {k : Nat} {w : Int32} {ad : Nat → Nat} (hk : 8 ≤ sA κ 4 k ∧ sA κ 4 k ≤ 10) (hv : vp_in w (aN (sA κ 5 k))) (h12 : aN w < 12) : gN (lnM κ k) (fun j => (rT (tr 0 (sA κ 6) k j)).map ad) none w = (rT (sA κ 6 (12 * k + aN w))).map ad := by
  have e : lnM κ k = aN (sA κ 5 k) := if_pos hk
  rw [e, gN_in hv (by have := Int32.toNatClampNeg_lt (sA κ 5 k); omega)]
  show (rT (tr 0 (sA κ 6) k (aN w))).map ad = _
  rw [show tr 0 (sA κ 6) k (aN w) = sA κ 6 (12 * k + aN w) from if_pos h12]
theorem lnN_in {κ : KS} {k : Nat} {w : Int32} (hk : sA κ 4 k ≤ 5) (hv : vp_in w (aN (sA κ 5 k))) : vp_in w (lnN κ k) := by rw [show lnN κ k = aN (sA κ 5 k) from if_pos hk]; exact hv
theorem lnP_in {κ : KS} {k : Nat} {w : Int32} (hk : sA κ 4 k = 6 ∨ sA κ 4 k = 7) (hv : vp_in w (aN (sA κ 5 k))) : vp_in w (lnP κ k) := by rw [show lnP κ k = aN (sA κ 5 k) from if_pos hk]; exact hv
theorem lnM_in {κ : KS} {k : Nat} {w : Int32} (hk : 8 ≤ sA κ 4 k ∧ sA κ 4 k ≤ 10) (hv : vp_in w (aN (sA κ 5 k))) : vp_in w (lnM κ k) := by rw [show lnM κ k = aN (sA κ 5 k) from if_pos hk]; exact hv
theorem sz31 {z : Int32} {n : Nat} (hz : vp_in z 13) (h : n = aN z ∨ n = 0) : n < 2 ^ 31 := by
  obtain ⟨m, hm, rfl⟩ := vp_in_of hz (by decide)
  rw [show aN (nI m) = m from nI_clamp (by omega)] at h
  omega
theorem lnN_31 {κ : KS} {k : Nat} (hz : vp_in (sA κ 5 k) 13) : lnN κ k < 2 ^ 31 := by unfold lnN; split <;> exact sz31 hz (by simp)
theorem lnP_31 {κ : KS} {k : Nat} (hz : vp_in (sA κ 5 k) 13) : lnP κ k < 2 ^ 31 := by unfold lnP; split <;> exact sz31 hz (by simp)
theorem lnM_31 {κ : KS} {k : Nat} (hz : vp_in (sA κ 5 k) 13) : lnM κ k < 2 ^ 31 := by unfold lnM; split <;> exact sz31 hz (by simp)
theorem kd5 {o k : Int32} (h : pOf o k) (hk : k = 0 ∨ k = 1 ∨ k = 2 ∨ k = 3 ∨ k = 4 ∨ k = 5 := by decide) : o ≤ 5 := by
  rcases hk with rfl | rfl | rfl | rfl | rfl | rfl <;> (simp [pOf] at h; subst h; decide)
theorem kd67 {o k : Int32} (h : pOf o k) (hk : k = 6 ∨ k = 7 := by decide) : o = 6 ∨ o = 7 := by
  rcases hk with rfl | rfl <;> (simp [pOf] at h; subst h; decide)
theorem kd810 {o k : Int32} (h : pOf o k) (hk : k = 8 ∨ k = 10 := by decide) : 8 ≤ o ∧ o ≤ 10 := by
  rcases hk with rfl | rfl
  · simp [pOf] at h; rcases h with h | h <;> (subst h; decide)
  · simp [pOf] at h; subst h; decide
set_option maxHeartbeats 4000000 in
set_option maxRecDepth 100000 in
theorem c_X7_narrow_0 (l : Launch) {D : va_G} {q : Nat → ClassId} (w : wT) (sz : Nat) (x0 : Int32) : Met l yX7_narrow wsX7_narrow (rmz 0 0) (va_Pc [.int 0, .int x0] (rPre D q w sz)) (va_Qi (fun (r : Int32) (u : Unit) => r = x0 &&& 1) (fun (u : Unit) tt => rPo D (rA w sz) w tt) (rA w sz)) 0 0 (rA w sz) := by
  refine r_start (cc := cX7_narrow) (maxL := 2) (ret := (some .int)) (by decide) rfl (Nat.le_of_ble_eq_true rfl) ?_
  intro p e s m below meth c ls hC hr hlk hnm hsz hw hl
  have hx := hC.1
  have hb := hC.2.1
  have hl : lv_has ls 2 [(0, .int 0), (1, .int x0)] := hl
  refine lv_iload_n hx hb dX7_narrow_0 rfl (lv_at hl 0 rfl) ?_
  refine lv_tableIn (tgt := 32) hx hb dX7_narrow_1 (by decide) (by decide) (by rfl) (by decide) ?_
  refine lv_iload_n hx hb dX7_narrow_32 rfl (lv_at hl 1 rfl) ?_
  refine lv_iconst (v := 1) hx hb dX7_narrow_33 (by decide) ?_
  refine lv_iand hx hb dX7_narrow_34 ?_
  exact r_iret hC hr hlk hw () rfl rfl (Nat.le_of_ble_eq_true rfl) (Nat.le_of_ble_eq_true rfl) dX7_narrow_35

set_option maxHeartbeats 4000000 in
set_option maxRecDepth 100000 in
theorem c_X7_narrow_1 (l : Launch) {D : va_G} {q : Nat → ClassId} (w : wT) (sz : Nat) (x0 : Int32) : Met l yX7_narrow wsX7_narrow (rmz 0 0) (va_Pc [.int 1, .int x0] (rPre D q w sz)) (va_Qi (fun (r : Int32) (u : Unit) => r = x0.toInt8.toInt32) (fun (u : Unit) tt => rPo D (rA w sz) w tt) (rA w sz)) 0 0 (rA w sz) := by
  refine r_start (cc := cX7_narrow) (maxL := 2) (ret := (some .int)) (by decide) rfl (Nat.le_of_ble_eq_true rfl) ?_
  intro p e s m below meth c ls hC hr hlk hnm hsz hw hl
  have hx := hC.1
  have hb := hC.2.1
  have hl : lv_has ls 2 [(0, .int 1), (1, .int x0)] := hl
  refine lv_iload_n hx hb dX7_narrow_0 rfl (lv_at hl 0 rfl) ?_
  refine lv_tableIn (tgt := 36) hx hb dX7_narrow_1 (by decide) (by decide) (by rfl) (by decide) ?_
  refine lv_iload_n hx hb dX7_narrow_36 rfl (lv_at hl 1 rfl) ?_
  refine lv_i2b (v := x0.toInt8.toInt32) hx hb dX7_narrow_37 rfl ?_
  exact r_iret hC hr hlk hw () rfl rfl (Nat.le_of_ble_eq_true rfl) (Nat.le_of_ble_eq_true rfl) dX7_narrow_38

set_option maxHeartbeats 4000000 in
set_option maxRecDepth 100000 in
theorem c_X7_narrow_2 (l : Launch) {D : va_G} {q : Nat → ClassId} (w : wT) (sz : Nat) (x0 : Int32) : Met l yX7_narrow wsX7_narrow (rmz 0 0) (va_Pc [.int 2, .int x0] (rPre D q w sz)) (va_Qi (fun (r : Int32) (u : Unit) => r = (x0.toUInt32 % 65536).toInt32) (fun (u : Unit) tt => rPo D (rA w sz) w tt) (rA w sz)) 0 0 (rA w sz) := by
  refine r_start (cc := cX7_narrow) (maxL := 2) (ret := (some .int)) (by decide) rfl (Nat.le_of_ble_eq_true rfl) ?_
  intro p e s m below meth c ls hC hr hlk hnm hsz hw hl
  have hx := hC.1
  have hb := hC.2.1
  have hl : lv_has ls 2 [(0, .int 2), (1, .int x0)] := hl
  refine lv_iload_n hx hb dX7_narrow_0 rfl (lv_at hl 0 rfl) ?_
  refine lv_tableIn (tgt := 39) hx hb dX7_narrow_1 (by decide) (by decide) (by rfl) (by decide) ?_
  refine lv_iload_n hx hb dX7_narrow_39 rfl (lv_at hl 1 rfl) ?_
  refine lv_i2c (v := (x0.toUInt32 % 65536).toInt32) hx hb dX7_narrow_40 rfl ?_
  exact r_iret hC hr hlk hw () rfl rfl (Nat.le_of_ble_eq_true rfl) (Nat.le_of_ble_eq_true rfl) dX7_narrow_41

set_option maxHeartbeats 4000000 in
set_option maxRecDepth 100000 in
theorem c_X7_narrow_3 (l : Launch) {D : va_G} {q : Nat → ClassId} (w : wT) (sz : Nat) (x0 : Int32) : Met l yX7_narrow wsX7_narrow (rmz 0 0) (va_Pc [.int 3, .int x0] (rPre D q w sz)) (va_Qi (fun (r : Int32) (u : Unit) => r = x0.toInt16.toInt32) (fun (u : Unit) tt => rPo D (rA w sz) w tt) (rA w sz)) 0 0 (rA w sz) := by
  refine r_start (cc := cX7_narrow) (maxL := 2) (ret := (some .int)) (by decide) rfl (Nat.le_of_ble_eq_true rfl) ?_
  intro p e s m below meth c ls hC hr hlk hnm hsz hw hl
  have hx := hC.1
  have hb := hC.2.1
  have hl : lv_has ls 2 [(0, .int 3), (1, .int x0)] := hl
  refine lv_iload_n hx hb dX7_narrow_0 rfl (lv_at hl 0 rfl) ?_
  refine lv_tableIn (tgt := 42) hx hb dX7_narrow_1 (by decide) (by decide) (by rfl) (by decide) ?_
  refine lv_iload_n hx hb dX7_narrow_42 rfl (lv_at hl 1 rfl) ?_
  refine lv_i2s (v := x0.toInt16.toInt32) hx hb dX7_narrow_43 rfl ?_
  exact r_iret hC hr hlk hw () rfl rfl (Nat.le_of_ble_eq_true rfl) (Nat.le_of_ble_eq_true rfl) dX7_narrow_44

set_option maxHeartbeats 4000000 in
set_option maxRecDepth 100000 in
theorem c_X7_narrow_4 (l : Launch) {D : va_G} {q : Nat → ClassId} (w : wT) (sz : Nat) (x0 : Int32) : Met l yX7_narrow wsX7_narrow (rmz 0 0) (va_Pc [.int 4, .int x0] (rPre D q w sz)) (va_Qi (fun (r : Int32) (u : Unit) => r = x0) (fun (u : Unit) tt => rPo D (rA w sz) w tt) (rA w sz)) 0 0 (rA w sz) := by
  refine r_start (cc := cX7_narrow) (maxL := 2) (ret := (some .int)) (by decide) rfl (Nat.le_of_ble_eq_true rfl) ?_
  intro p e s m below meth c ls hC hr hlk hnm hsz hw hl
  have hx := hC.1
  have hb := hC.2.1
  have hl : lv_has ls 2 [(0, .int 4), (1, .int x0)] := hl
  refine lv_iload_n hx hb dX7_narrow_0 rfl (lv_at hl 0 rfl) ?_
  refine lv_tableOut (tgt := 45) hx hb dX7_narrow_1 (by decide) (by decide) ?_
  refine lv_iload_n hx hb dX7_narrow_45 rfl (lv_at hl 1 rfl) ?_
  exact r_iret hC hr hlk hw () rfl rfl (Nat.le_of_ble_eq_true rfl) (Nat.le_of_ble_eq_true rfl) dX7_narrow_46

set_option maxHeartbeats 4000000 in
set_option maxRecDepth 100000 in
theorem c_X7_rowKind_0 (l : Launch) {D : va_G} {q : Nat → ClassId} (w : wT) (sz : Nat)  : Met l yX7_rowKind wsX7_rowKind (rmz 0 0) (va_Pc [.int 0] (rPre D q w sz)) (va_Qi (fun (r : Int32) (u : Unit) => r = 0) (fun (u : Unit) tt => rPo D (rA w sz) w tt) (rA w sz)) 0 0 (rA w sz) := by
  refine r_start (cc := cX7_rowKind) (maxL := 1) (ret := (some .int)) (by decide) rfl (Nat.le_of_ble_eq_true rfl) ?_
  intro p e s m below meth c ls hC hr hlk hnm hsz hw hl
  have hx := hC.1
  have hb := hC.2.1
  have hl : lv_has ls 1 [(0, .int 0)] := hl
  refine lv_iload_n hx hb dX7_rowKind_0 rfl (lv_at hl 0 rfl) ?_
  refine lv_bipush (v := 9) hx hb dX7_rowKind_1 (by decide) ?_
  refine lv_icmp_ne (tgt := 11) hx hb dX7_rowKind_3 (by decide) (fun _ => ?_) (fun c_ => absurd c_ (by decide))
  refine lv_iload_n hx hb dX7_rowKind_11 rfl (lv_at hl 0 rfl) ?_
  exact r_iret hC hr hlk hw () rfl rfl (Nat.le_of_ble_eq_true rfl) (Nat.le_of_ble_eq_true rfl) dX7_rowKind_12

set_option maxHeartbeats 4000000 in
set_option maxRecDepth 100000 in
theorem c_X7_rowKind_1 (l : Launch) {D : va_G} {q : Nat → ClassId} (w : wT) (sz : Nat)  : Met l yX7_rowKind wsX7_rowKind (rmz 0 0) (va_Pc [.int 1] (rPre D q w sz)) (va_Qi (fun (r : Int32) (u : Unit) => r = 1) (fun (u : Unit) tt => rPo D (rA w sz) w tt) (rA w sz)) 0 0 (rA w sz) := by
  refine r_start (cc := cX7_rowKind) (maxL := 1) (ret := (some .int)) (by decide) rfl (Nat.le_of_ble_eq_true rfl) ?_
  intro p e s m below meth c ls hC hr hlk hnm hsz hw hl
  have hx := hC.1
  have hb := hC.2.1
  have hl : lv_has ls 1 [(0, .int 1)] := hl
  refine lv_iload_n hx hb dX7_rowKind_0 rfl (lv_at hl 0 rfl) ?_
  refine lv_bipush (v := 9) hx hb dX7_rowKind_1 (by decide) ?_
  refine lv_icmp_ne (tgt := 11) hx hb dX7_rowKind_3 (by decide) (fun _ => ?_) (fun c_ => absurd c_ (by decide))
  refine lv_iload_n hx hb dX7_rowKind_11 rfl (lv_at hl 0 rfl) ?_
  exact r_iret hC hr hlk hw () rfl rfl (Nat.le_of_ble_eq_true rfl) (Nat.le_of_ble_eq_true rfl) dX7_rowKind_12

set_option maxHeartbeats 4000000 in
set_option maxRecDepth 100000 in
theorem c_X7_rowKind_2 (l : Launch) {D : va_G} {q : Nat → ClassId} (w : wT) (sz : Nat)  : Met l yX7_rowKind wsX7_rowKind (rmz 0 0) (va_Pc [.int 2] (rPre D q w sz)) (va_Qi (fun (r : Int32) (u : Unit) => r = 2) (fun (u : Unit) tt => rPo D (rA w sz) w tt) (rA w sz)) 0 0 (rA w sz) := by
  refine r_start (cc := cX7_rowKind) (maxL := 1) (ret := (some .int)) (by decide) rfl (Nat.le_of_ble_eq_true rfl) ?_
  intro p e s m below meth c ls hC hr hlk hnm hsz hw hl
  have hx := hC.1
  have hb := hC.2.1
  have hl : lv_has ls 1 [(0, .int 2)] := hl
  refine lv_iload_n hx hb dX7_rowKind_0 rfl (lv_at hl 0 rfl) ?_
  refine lv_bipush (v := 9) hx hb dX7_rowKind_1 (by decide) ?_
  refine lv_icmp_ne (tgt := 11) hx hb dX7_rowKind_3 (by decide) (fun _ => ?_) (fun c_ => absurd c_ (by decide))
  refine lv_iload_n hx hb dX7_rowKind_11 rfl (lv_at hl 0 rfl) ?_
  exact r_iret hC hr hlk hw () rfl rfl (Nat.le_of_ble_eq_true rfl) (Nat.le_of_ble_eq_true rfl) dX7_rowKind_12

set_option maxHeartbeats 4000000 in
set_option maxRecDepth 100000 in
theorem c_X7_rowKind_3 (l : Launch) {D : va_G} {q : Nat → ClassId} (w : wT) (sz : Nat)  : Met l yX7_rowKind wsX7_rowKind (rmz 0 0) (va_Pc [.int 3] (rPre D q w sz)) (va_Qi (fun (r : Int32) (u : Unit) => r = 3) (fun (u : Unit) tt => rPo D (rA w sz) w tt) (rA w sz)) 0 0 (rA w sz) := by
  refine r_start (cc := cX7_rowKind) (maxL := 1) (ret := (some .int)) (by decide) rfl (Nat.le_of_ble_eq_true rfl) ?_
  intro p e s m below meth c ls hC hr hlk hnm hsz hw hl
  have hx := hC.1
  have hb := hC.2.1
  have hl : lv_has ls 1 [(0, .int 3)] := hl
  refine lv_iload_n hx hb dX7_rowKind_0 rfl (lv_at hl 0 rfl) ?_
  refine lv_bipush (v := 9) hx hb dX7_rowKind_1 (by decide) ?_
  refine lv_icmp_ne (tgt := 11) hx hb dX7_rowKind_3 (by decide) (fun _ => ?_) (fun c_ => absurd c_ (by decide))
  refine lv_iload_n hx hb dX7_rowKind_11 rfl (lv_at hl 0 rfl) ?_
  exact r_iret hC hr hlk hw () rfl rfl (Nat.le_of_ble_eq_true rfl) (Nat.le_of_ble_eq_true rfl) dX7_rowKind_12

set_option maxHeartbeats 4000000 in
set_option maxRecDepth 100000 in
theorem c_X7_rowKind_4 (l : Launch) {D : va_G} {q : Nat → ClassId} (w : wT) (sz : Nat)  : Met l yX7_rowKind wsX7_rowKind (rmz 0 0) (va_Pc [.int 4] (rPre D q w sz)) (va_Qi (fun (r : Int32) (u : Unit) => r = 4) (fun (u : Unit) tt => rPo D (rA w sz) w tt) (rA w sz)) 0 0 (rA w sz) := by
  refine r_start (cc := cX7_rowKind) (maxL := 1) (ret := (some .int)) (by decide) rfl (Nat.le_of_ble_eq_true rfl) ?_
  intro p e s m below meth c ls hC hr hlk hnm hsz hw hl
  have hx := hC.1
  have hb := hC.2.1
  have hl : lv_has ls 1 [(0, .int 4)] := hl
  refine lv_iload_n hx hb dX7_rowKind_0 rfl (lv_at hl 0 rfl) ?_
  refine lv_bipush (v := 9) hx hb dX7_rowKind_1 (by decide) ?_
  refine lv_icmp_ne (tgt := 11) hx hb dX7_rowKind_3 (by decide) (fun _ => ?_) (fun c_ => absurd c_ (by decide))
  refine lv_iload_n hx hb dX7_rowKind_11 rfl (lv_at hl 0 rfl) ?_
  exact r_iret hC hr hlk hw () rfl rfl (Nat.le_of_ble_eq_true rfl) (Nat.le_of_ble_eq_true rfl) dX7_rowKind_12

set_option maxHeartbeats 4000000 in
set_option maxRecDepth 100000 in
theorem c_X7_rowKind_5 (l : Launch) {D : va_G} {q : Nat → ClassId} (w : wT) (sz : Nat)  : Met l yX7_rowKind wsX7_rowKind (rmz 0 0) (va_Pc [.int 5] (rPre D q w sz)) (va_Qi (fun (r : Int32) (u : Unit) => r = 5) (fun (u : Unit) tt => rPo D (rA w sz) w tt) (rA w sz)) 0 0 (rA w sz) := by
  refine r_start (cc := cX7_rowKind) (maxL := 1) (ret := (some .int)) (by decide) rfl (Nat.le_of_ble_eq_true rfl) ?_
  intro p e s m below meth c ls hC hr hlk hnm hsz hw hl
  have hx := hC.1
  have hb := hC.2.1
  have hl : lv_has ls 1 [(0, .int 5)] := hl
  refine lv_iload_n hx hb dX7_rowKind_0 rfl (lv_at hl 0 rfl) ?_
  refine lv_bipush (v := 9) hx hb dX7_rowKind_1 (by decide) ?_
  refine lv_icmp_ne (tgt := 11) hx hb dX7_rowKind_3 (by decide) (fun _ => ?_) (fun c_ => absurd c_ (by decide))
  refine lv_iload_n hx hb dX7_rowKind_11 rfl (lv_at hl 0 rfl) ?_
  exact r_iret hC hr hlk hw () rfl rfl (Nat.le_of_ble_eq_true rfl) (Nat.le_of_ble_eq_true rfl) dX7_rowKind_12

set_option maxHeartbeats 4000000 in
set_option maxRecDepth 100000 in
theorem c_X7_rowKind_6 (l : Launch) {D : va_G} {q : Nat → ClassId} (w : wT) (sz : Nat)  : Met l yX7_rowKind wsX7_rowKind (rmz 0 0) (va_Pc [.int 6] (rPre D q w sz)) (va_Qi (fun (r : Int32) (u : Unit) => r = 6) (fun (u : Unit) tt => rPo D (rA w sz) w tt) (rA w sz)) 0 0 (rA w sz) := by
  refine r_start (cc := cX7_rowKind) (maxL := 1) (ret := (some .int)) (by decide) rfl (Nat.le_of_ble_eq_true rfl) ?_
  intro p e s m below meth c ls hC hr hlk hnm hsz hw hl
  have hx := hC.1
  have hb := hC.2.1
  have hl : lv_has ls 1 [(0, .int 6)] := hl
  refine lv_iload_n hx hb dX7_rowKind_0 rfl (lv_at hl 0 rfl) ?_
  refine lv_bipush (v := 9) hx hb dX7_rowKind_1 (by decide) ?_
  refine lv_icmp_ne (tgt := 11) hx hb dX7_rowKind_3 (by decide) (fun _ => ?_) (fun c_ => absurd c_ (by decide))
  refine lv_iload_n hx hb dX7_rowKind_11 rfl (lv_at hl 0 rfl) ?_
  exact r_iret hC hr hlk hw () rfl rfl (Nat.le_of_ble_eq_true rfl) (Nat.le_of_ble_eq_true rfl) dX7_rowKind_12

set_option maxHeartbeats 4000000 in
set_option maxRecDepth 100000 in
theorem c_X7_rowKind_7 (l : Launch) {D : va_G} {q : Nat → ClassId} (w : wT) (sz : Nat)  : Met l yX7_rowKind wsX7_rowKind (rmz 0 0) (va_Pc [.int 7] (rPre D q w sz)) (va_Qi (fun (r : Int32) (u : Unit) => r = 7) (fun (u : Unit) tt => rPo D (rA w sz) w tt) (rA w sz)) 0 0 (rA w sz) := by
  refine r_start (cc := cX7_rowKind) (maxL := 1) (ret := (some .int)) (by decide) rfl (Nat.le_of_ble_eq_true rfl) ?_
  intro p e s m below meth c ls hC hr hlk hnm hsz hw hl
  have hx := hC.1
  have hb := hC.2.1
  have hl : lv_has ls 1 [(0, .int 7)] := hl
  refine lv_iload_n hx hb dX7_rowKind_0 rfl (lv_at hl 0 rfl) ?_
  refine lv_bipush (v := 9) hx hb dX7_rowKind_1 (by decide) ?_
  refine lv_icmp_ne (tgt := 11) hx hb dX7_rowKind_3 (by decide) (fun _ => ?_) (fun c_ => absurd c_ (by decide))
  refine lv_iload_n hx hb dX7_rowKind_11 rfl (lv_at hl 0 rfl) ?_
  exact r_iret hC hr hlk hw () rfl rfl (Nat.le_of_ble_eq_true rfl) (Nat.le_of_ble_eq_true rfl) dX7_rowKind_12

set_option maxHeartbeats 4000000 in
set_option maxRecDepth 100000 in
theorem c_X7_rowKind_8 (l : Launch) {D : va_G} {q : Nat → ClassId} (w : wT) (sz : Nat)  : Met l yX7_rowKind wsX7_rowKind (rmz 0 0) (va_Pc [.int 8] (rPre D q w sz)) (va_Qi (fun (r : Int32) (u : Unit) => r = 8) (fun (u : Unit) tt => rPo D (rA w sz) w tt) (rA w sz)) 0 0 (rA w sz) := by
  refine r_start (cc := cX7_rowKind) (maxL := 1) (ret := (some .int)) (by decide) rfl (Nat.le_of_ble_eq_true rfl) ?_
  intro p e s m below meth c ls hC hr hlk hnm hsz hw hl
  have hx := hC.1
  have hb := hC.2.1
  have hl : lv_has ls 1 [(0, .int 8)] := hl
  refine lv_iload_n hx hb dX7_rowKind_0 rfl (lv_at hl 0 rfl) ?_
  refine lv_bipush (v := 9) hx hb dX7_rowKind_1 (by decide) ?_
  refine lv_icmp_ne (tgt := 11) hx hb dX7_rowKind_3 (by decide) (fun _ => ?_) (fun c_ => absurd c_ (by decide))
  refine lv_iload_n hx hb dX7_rowKind_11 rfl (lv_at hl 0 rfl) ?_
  exact r_iret hC hr hlk hw () rfl rfl (Nat.le_of_ble_eq_true rfl) (Nat.le_of_ble_eq_true rfl) dX7_rowKind_12

set_option maxHeartbeats 4000000 in
set_option maxRecDepth 100000 in
theorem c_X7_rowKind_9 (l : Launch) {D : va_G} {q : Nat → ClassId} (w : wT) (sz : Nat)  : Met l yX7_rowKind wsX7_rowKind (rmz 0 0) (va_Pc [.int 9] (rPre D q w sz)) (va_Qi (fun (r : Int32) (u : Unit) => r = 10) (fun (u : Unit) tt => rPo D (rA w sz) w tt) (rA w sz)) 0 0 (rA w sz) := by
  refine r_start (cc := cX7_rowKind) (maxL := 1) (ret := (some .int)) (by decide) rfl (Nat.le_of_ble_eq_true rfl) ?_
  intro p e s m below meth c ls hC hr hlk hnm hsz hw hl
  have hx := hC.1
  have hb := hC.2.1
  have hl : lv_has ls 1 [(0, .int 9)] := hl
  refine lv_iload_n hx hb dX7_rowKind_0 rfl (lv_at hl 0 rfl) ?_
  refine lv_bipush (v := 9) hx hb dX7_rowKind_1 (by decide) ?_
  refine lv_icmp_ne (tgt := 11) hx hb dX7_rowKind_3 (by decide) (fun c_ => absurd (by decide) c_) (fun _ => ?_)
  refine lv_bipush (v := 10) hx hb dX7_rowKind_6 (by decide) ?_
  refine lv_goto (tgt := 12) hx hb dX7_rowKind_8 (by decide) ?_
  exact r_iret hC hr hlk hw () rfl rfl (Nat.le_of_ble_eq_true rfl) (Nat.le_of_ble_eq_true rfl) dX7_rowKind_12

set_option maxHeartbeats 4000000 in
set_option maxRecDepth 100000 in
theorem c_X7_getFromRow_39 (l : Launch) {D : va_G} {q : Nat → ClassId} {ad : Nat → Nat} {κ : KS} {τ : TAU} (sz : Nat) (ρ : Nat) (xa xb xc hd th : Int32) (hst : stepAt q ad κ τ ρ 39 xa xb xc) (hs : okStep 39 xa xb xc)(hX : WFx κ) (hN : nnOp κ 39 xa xb xc) : Met l yX7_getFromRow wsX7_getFromRow (rmz 2 42) (va_Pc [.ref (ad 5), .ref (ad ρ), .int 0] (rPre D q (wX q ad κ τ) sz)) (va_Qi (fun (r : Int32) (u : KS) => (r, u) = doR κ hd th 39 xa xb xc) (fun (u : KS) tt => rPo D (rA (wX q ad κ τ) sz) (wX q ad u τ) tt) (rA (wX q ad κ τ) sz)) 0 0 (rA (wX q ad κ τ) sz) := by
  have hi0 : vp_in xa 8 := hs.1
  have hi1 : vp_in xb 8 := hs.2.1
  have hi2 : vp_in xc 8 := hs.2.2
  refine r_start (cc := cX7_getFromRow) (maxL := 5) (ret := (some .int)) (by decide) rfl (Nat.le_of_ble_eq_true rfl) ?_
  intro p e s m below meth c ls hC hr hlk hnm hsz hw hl
  have hx := hC.1
  have hb := hC.2.1
  have hl : lv_has ls 5 [(0, .ref (ad 5)), (1, .ref (ad ρ)), (2, .int 0)] := hl
  refine lv_aload_n hx hb dX7_getFromRow_0 rfl (lv_at hl 0 rfl) ?_
  refine r_get hC hw rk7 in_X7_getFromRow_7 5 (wXl 5 (by decide)) wXc5 0 (by decide) lk_X7_getFromRow_9 (v := .ref (ad 2)) rfl dX7_getFromRow_1 ?_
  refine lv_aload_n hx hb dX7_getFromRow_4 rfl (lv_at hl 1 rfl) ?_
  refine r_get hC hw rk5 in_X7_getFromRow_5 ρ hst.1 hst.2 2 (by decide) lk_X7_getFromRow_74 (v := .int xb) rfl dX7_getFromRow_5 ?_
  refine r_kq hw (r_runV (rest := []) hC hw 2 (c_X3_getThing l _ _ 2 12 xb (wXl 2 (by decide)) wXc2 (wXl 12 (by decide)) wXc12) rk3 (wXl 2 (by decide)) wXc2 1 gX7_getFromRow_X3_getThing rfl rfl rfl (by decide +kernel) ⟨Nat.le_of_ble_eq_true rfl, Nat.le_of_ble_eq_true rfl⟩ rfl hl.1 rfl (Nat.le_of_ble_eq_true rfl) dX7_getFromRow_8 ⟨Nat.le_of_ble_eq_true rfl, Nat.le_of_ble_eq_true rfl⟩) (fun r_2 u_3 H locs h_1 hw => ?_)
  subst h_1
  by_cases n_4 : (sA κ 3 (aN xb)) = 0
  · refine r_topv (y := .null) (by rw [gN_in (by assumption) (by decide)]; show va_rf ((rT (sA κ 3 (aN xb))).map ad) = _; rw [rT0 n_4]; rfl) ?_
    refine lv_astore_nN (lv' := [(3, .null), (0, .ref (ad 5)), (1, .ref (ad ρ)), (2, .int 0)]) hx hb dX7_getFromRow_11 rfl hl (by decide) rfl (fun ls hl => ?_)
    refine lv_aload_n hx hb dX7_getFromRow_12 rfl (lv_at hl 1 rfl) ?_
    refine r_get hC hw rk7 in_X7_getFromRow_7 5 (wXl 5 (by decide)) wXc5 0 (by decide) lk_X7_getFromRow_9 (v := .ref (ad 2)) rfl dX7_getFromRow_13 ?_
    refine lv_aload_n hx hb dX7_getFromRow_16 rfl (lv_at hl 2 rfl) ?_
    refine r_get hC hw rk5 in_X7_getFromRow_5 ρ hst.1 hst.2 3 (by decide) lk_X7_getFromRow_57 (v := .int xc) rfl dX7_getFromRow_17 ?_
    refine r_ki hw (r_runV (rest := []) hC hw 2 (c_X3_getWord l _ _ 2 8 xc (wXl 2 (by decide)) wXc2 (wXl 8 (by decide)) wXc8) rk3 (wXl 2 (by decide)) wXc2 1 gX7_getFromRow_X3_getWord rfl rfl rfl (by decide +kernel) ⟨Nat.le_of_ble_eq_true rfl, Nat.le_of_ble_eq_true rfl⟩ rfl hl.1 rfl (Nat.le_of_ble_eq_true rfl) dX7_getFromRow_20 ⟨Nat.le_of_ble_eq_true rfl, Nat.le_of_ble_eq_true rfl⟩) (fun r_6 u_7 H locs h_5 hw => ?_)
    subst h_5
    refine r_topv (y := .int (sA κ 2 (aN xc))) (congrArg _ (gN_in (by assumption) (by decide))) ?_
    refine lv_istore (lv' := [(4, .int (sA κ 2 (aN xc))), (3, .null), (0, .ref (ad 5)), (1, .ref (ad ρ)), (2, .int 0)]) hx hb dX7_getFromRow_23 hl (by decide) rfl (fun ls hl => ?_)
    refine lv_aload_nN hx hb dX7_getFromRow_25 rfl (lv_at hl 1 rfl) ?_
    refine lv_iload_n hx hb dX7_getFromRow_26 rfl (lv_at hl 4 rfl) ?_
    refine r_ki hw (r_runSN (rest := []) hC hw hw.1.2.1 lks_X7_getFromRow lkz_X7_getFromRow_94 (c_X8_misfitsN_0 l _ _) 2 gX7_getFromRow_X8_misfits_n94 rfl rfl rfl (by decide +kernel) ⟨Nat.le_of_ble_eq_true rfl, Nat.le_of_ble_eq_true rfl⟩ rfl hl.1 rfl (Nat.le_of_ble_eq_true rfl) dX7_getFromRow_27 ⟨Nat.le_of_ble_eq_true rfl, Nat.le_of_ble_eq_true rfl⟩) (fun r_9 u_10 H locs h_8 hw => ?_)
    subst h_8
    have w_11 : ¬ pWrong κ (sA κ 3 (aN xb)) 0 := fun h => h.1 n_4
    refine lv_if_eq (tgt := 35) hx hb dX7_getFromRow_30 (by decide) (fun _ => ?_) (fun c_ => absurd (by decide) c_)
    refine lv_aload_nN hx hb dX7_getFromRow_35 rfl (lv_at hl 1 rfl) ?_
    refine lv_ifnonnullN hx hb dX7_getFromRow_36 ?_
    refine lv_iconst (v := 1) hx hb dX7_getFromRow_39 (by decide) ?_
    exact r_iret hC hr hlk hw κ rfl (doRf (κ := κ) (hd := hd) (th := th) (k := 39) (a := xa) (b := xb) (c := xc) ((if_neg w_11).trans (if_pos n_4)) (by decide)).symm (Nat.le_of_ble_eq_true rfl) (Nat.le_of_ble_eq_true rfl) dX7_getFromRow_40
  · refine r_topv (y := .ref (ad (100 + 4 * (aN ((sA κ 3 (aN xb)) - 1))))) (by rw [gN_in (by assumption) (by decide)]; show va_rf ((rT (sA κ 3 (aN xb))).map ad) = _; rw [rT1 n_4]; rfl) ?_
    have hB_b := hX.2.1 xb (by assumption) n_4
    have h6_b : (aN ((sA κ 3 (aN xb)) - 1)) < 60 := Nat.lt_of_lt_of_le hB_b.2 hX.1
    have hl_b : (wX q ad κ τ).2.1 (100 + 4 * (aN ((sA κ 3 (aN xb)) - 1))) := thl hB_b.2
    have hc_b : (wX q ad κ τ).2.2 (100 + 4 * (aN ((sA κ 3 (aN xb)) - 1))) = .inr (6, fsT ad κ (aN ((sA κ 3 (aN xb)) - 1))) := thc h6_b
    have hk_b := hX.2.2.1 _ hB_b.2
    refine lv_astore_n (lv' := [(3, .ref (ad (100 + 4 * (aN ((sA κ 3 (aN xb)) - 1))))), (0, .ref (ad 5)), (1, .ref (ad ρ)), (2, .int 0)]) hx hb dX7_getFromRow_11 rfl hl (by decide) rfl (fun ls hl => ?_)
    refine lv_aload_n hx hb dX7_getFromRow_12 rfl (lv_at hl 1 rfl) ?_
    refine r_get hC hw rk7 in_X7_getFromRow_7 5 (wXl 5 (by decide)) wXc5 0 (by decide) lk_X7_getFromRow_9 (v := .ref (ad 2)) rfl dX7_getFromRow_13 ?_
    refine lv_aload_n hx hb dX7_getFromRow_16 rfl (lv_at hl 2 rfl) ?_
    refine r_get hC hw rk5 in_X7_getFromRow_5 ρ hst.1 hst.2 3 (by decide) lk_X7_getFromRow_57 (v := .int xc) rfl dX7_getFromRow_17 ?_
    refine r_ki hw (r_runV (rest := []) hC hw 2 (c_X3_getWord l _ _ 2 8 xc (wXl 2 (by decide)) wXc2 (wXl 8 (by decide)) wXc8) rk3 (wXl 2 (by decide)) wXc2 1 gX7_getFromRow_X3_getWord rfl rfl rfl (by decide +kernel) ⟨Nat.le_of_ble_eq_true rfl, Nat.le_of_ble_eq_true rfl⟩ rfl hl.1 rfl (Nat.le_of_ble_eq_true rfl) dX7_getFromRow_20 ⟨Nat.le_of_ble_eq_true rfl, Nat.le_of_ble_eq_true rfl⟩) (fun r_13 u_14 H locs h_12 hw => ?_)
    subst h_12
    refine r_topv (y := .int (sA κ 2 (aN xc))) (congrArg _ (gN_in (by assumption) (by decide))) ?_
    refine lv_istore (lv' := [(4, .int (sA κ 2 (aN xc))), (3, .ref (ad (100 + 4 * (aN ((sA κ 3 (aN xb)) - 1))))), (0, .ref (ad 5)), (1, .ref (ad ρ)), (2, .int 0)]) hx hb dX7_getFromRow_23 hl (by decide) rfl (fun ls hl => ?_)
    refine lv_aload_n hx hb dX7_getFromRow_25 rfl (lv_at hl 1 rfl) ?_
    refine lv_iload_n hx hb dX7_getFromRow_26 rfl (lv_at hl 4 rfl) ?_
    refine r_ki hw (r_runSN (rest := []) hC hw hw.1.2.1 lks_X7_getFromRow lkz_X7_getFromRow_94 (c_X8_misfits_0 l _ _ (100 + 4 * (aN ((sA κ 3 (aN xb)) - 1))) hk_b.1 hl_b hc_b) 2 gX7_getFromRow_X8_misfits_n94 rfl rfl rfl (by decide +kernel) ⟨Nat.le_of_ble_eq_true rfl, Nat.le_of_ble_eq_true rfl⟩ rfl hl.1 rfl (Nat.le_of_ble_eq_true rfl) dX7_getFromRow_27 ⟨Nat.le_of_ble_eq_true rfl, Nat.le_of_ble_eq_true rfl⟩) (fun r_16 u_17 H locs h_15 hw => ?_)
    by_cases c_18 : pOf (sA κ 4 (aN ((sA κ 3 (aN xb)) - 1))) 0
    · rw [if_pos c_18] at h_15
      subst h_15
      have w_19 : ¬ pWrong κ (sA κ 3 (aN xb)) 0 := fun h => h.2 c_18
      refine lv_if_eq (tgt := 35) hx hb dX7_getFromRow_30 (by decide) (fun _ => ?_) (fun c_ => absurd (by decide) c_)
      refine lv_aload_n hx hb dX7_getFromRow_35 rfl (lv_at hl 1 rfl) ?_
      refine lv_ifnonnull (tgt := 41) hx hb dX7_getFromRow_36 (by decide) ?_
      refine lv_aload_n hx hb dX7_getFromRow_41 rfl (lv_at hl 1 rfl) ?_
      refine lv_iload hx hb dX7_getFromRow_42 (lv_at hl 0 rfl) ?_
      refine r_ki hw (r_runV (rest := []) hC hw (100 + 4 * (aN ((sA κ 3 (aN xb)) - 1))) (c_X6_hasPlace l _ _ (100 + 4 * (aN ((sA κ 3 (aN xb)) - 1))) (sA κ 2 (aN xc)) hl_b hc_b) rk6 hl_b hc_b 1 gX7_getFromRow_X6_hasPlace rfl rfl rfl (by decide +kernel) ⟨Nat.le_of_ble_eq_true rfl, Nat.le_of_ble_eq_true rfl⟩ rfl hl.1 rfl (Nat.le_of_ble_eq_true rfl) dX7_getFromRow_44 ⟨Nat.le_of_ble_eq_true rfl, Nat.le_of_ble_eq_true rfl⟩) (fun r_21 u_22 H locs h_20 hw => ?_)
      rw [hp_eq hk_b.2] at h_20
      by_cases c_23 : pIn (sA κ 2 (aN xc)) 0 ((sA κ 5 (aN ((sA κ 3 (aN xb)) - 1))) - 1)
      · rw [if_pos c_23] at h_20
        subst h_20
        have hix := ixN hB_b.1 c_23 hk_b.2
        refine lv_if_ne (tgt := 52) hx hb dX7_getFromRow_47 (by decide) (fun _ => ?_) (fun c_ => absurd c_ (by decide))
        refine lv_iload_n hx hb dX7_getFromRow_52 rfl (lv_at hl 4 rfl) ?_
        refine lv_iconst (v := 4) hx hb dX7_getFromRow_53 (by decide) ?_
        refine lv_icmp_gt (tgt := 78) hx hb dX7_getFromRow_54 (by decide) (fun c_ => absurd c_ (by decide)) (fun _ => ?_)
        refine lv_aload_n hx hb dX7_getFromRow_57 rfl (lv_at hl 2 rfl) ?_
        refine r_get hC hw rk7 in_X7_getFromRow_7 5 (wXl 5 (by decide)) wXc5 0 (by decide) lk_X7_getFromRow_9 (v := .ref (ad 2)) rfl dX7_getFromRow_58 ?_
        refine lv_aload_n hx hb dX7_getFromRow_61 rfl (lv_at hl 3 rfl) ?_
        refine r_get hC hw rk5 in_X7_getFromRow_5 ρ hst.1 hst.2 1 (by decide) lk_X7_getFromRow_69 (v := .int xa) rfl dX7_getFromRow_62 ?_
        refine lv_aload_n hx hb dX7_getFromRow_65 rfl (lv_at hl 1 rfl) ?_
        refine lv_iload hx hb dX7_getFromRow_66 (lv_at hl 0 rfl) ?_
        have hkd : sA κ 4 (aN ((sA κ 3 (aN xb)) - 1)) ≤ 5 := kd5 c_18
        refine r_kl hw (r_runV (rest := [.int xa, .ref (ad 2)]) hC hw (100 + 4 * (aN ((sA κ 3 (aN xb)) - 1))) (c_X6_getNumber (x1 := .null) l _ _ (100 + 4 * (aN ((sA κ 3 (aN xb)) - 1))) (101 + 4 * (aN ((sA κ 3 (aN xb)) - 1))) (sA κ 2 (aN xc)) hl_b hc_b (thl1 hB_b.2) (thc1 h6_b)) rk6 hl_b hc_b 1 gX7_getFromRow_X6_getNumber rfl rfl rfl (by decide +kernel) ⟨Nat.le_of_ble_eq_true rfl, Nat.le_of_ble_eq_true rfl⟩ rfl hl.1 rfl (Nat.le_of_ble_eq_true rfl) dX7_getFromRow_68 ⟨Nat.le_of_ble_eq_true rfl, Nat.le_of_ble_eq_true rfl⟩) (fun r_25 u_26 H locs h_24 hw => ?_)
        rw [getNum hkd hix.2.2 hix.2.1, ← hix.1] at h_24
        subst h_24
        refine lv_l2i (v := (sJ κ 1 (aN ((12 * ((sA κ 3 (aN xb)) - 1)) + (sA κ 2 (aN xc))))).toInt32) hx hb dX7_getFromRow_71 rfl ?_
        refine r_kv hw (r_runV (rest := []) hC hw 2 (c_X3_setWord l _ _ 2 8 xa ((sJ κ 1 (aN ((12 * ((sA κ 3 (aN xb)) - 1)) + (sA κ 2 (aN xc))))).toInt32) (by assumption) (wXl 2 (by decide)) wXc2 (wXl 8 (by decide)) wXc8) rk3 (wXl 2 (by decide)) wXc2 2 gX7_getFromRow_X3_setWord rfl rfl rfl (by decide +kernel) ⟨Nat.le_of_ble_eq_true rfl, Nat.le_of_ble_eq_true rfl⟩ rfl hl.1 rfl (Nat.le_of_ble_eq_true rfl) dX7_getFromRow_72 ⟨Nat.le_of_ble_eq_true rfl, Nat.le_of_ble_eq_true rfl⟩) (fun u_29 H locs h_27 hw => ?_)
        replace hw := xS_words hw
        refine lv_goto (tgt := 173) hx hb dX7_getFromRow_75 (by decide) ?_
        refine lv_iconst (v := 0) hx hb dX7_getFromRow_173 (by decide) ?_
        exact r_iret hC hr hlk hw (uA κ 2 (aN xa) ((sJ κ 1 (aN ((12 * ((sA κ 3 (aN xb)) - 1)) + (sA κ 2 (aN xc))))).toInt32)) rfl (doR0 (κ := κ) (hd := hd) (th := th) (k := 39) (a := xa) (b := xb) (c := xc) ((if_neg w_19).trans ((if_neg n_4).trans (if_pos c_23)))).symm (Nat.le_of_ble_eq_true rfl) (Nat.le_of_ble_eq_true rfl) dX7_getFromRow_174
      · rw [if_neg c_23] at h_20
        subst h_20
        refine lv_if_ne (tgt := 52) hx hb dX7_getFromRow_47 (by decide) (fun c_ => absurd (by decide) c_) (fun _ => ?_)
        refine lv_iconst (v := 2) hx hb dX7_getFromRow_50 (by decide) ?_
        exact r_iret hC hr hlk hw κ rfl (doRf (κ := κ) (hd := hd) (th := th) (k := 39) (a := xa) (b := xb) (c := xc) ((if_neg w_19).trans ((if_neg n_4).trans (if_neg c_23))) (by decide)).symm (Nat.le_of_ble_eq_true rfl) (Nat.le_of_ble_eq_true rfl) dX7_getFromRow_51
    · rw [if_neg c_18] at h_15
      subst h_15
      have w_30 : pWrong κ (sA κ 3 (aN xb)) 0 := ⟨n_4, c_18⟩
      refine lv_if_eq (tgt := 35) hx hb dX7_getFromRow_30 (by decide) (fun c_ => absurd c_ (by decide)) (fun _ => ?_)
      refine lv_iconst (v := 4) hx hb dX7_getFromRow_33 (by decide) ?_
      exact r_iret hC hr hlk hw κ rfl (doRf (κ := κ) (hd := hd) (th := th) (k := 39) (a := xa) (b := xb) (c := xc) (if_pos w_30) (by decide)).symm (Nat.le_of_ble_eq_true rfl) (Nat.le_of_ble_eq_true rfl) dX7_getFromRow_34

set_option maxHeartbeats 4000000 in
set_option maxRecDepth 100000 in
theorem c_X7_getFromRow_40 (l : Launch) {D : va_G} {q : Nat → ClassId} {ad : Nat → Nat} {κ : KS} {τ : TAU} (sz : Nat) (ρ : Nat) (xa xb xc hd th : Int32) (hst : stepAt q ad κ τ ρ 40 xa xb xc) (hs : okStep 40 xa xb xc)(hX : WFx κ) (hN : nnOp κ 40 xa xb xc) : Met l yX7_getFromRow wsX7_getFromRow (rmz 2 42) (va_Pc [.ref (ad 5), .ref (ad ρ), .int 1] (rPre D q (wX q ad κ τ) sz)) (va_Qi (fun (r : Int32) (u : KS) => (r, u) = doR κ hd th 40 xa xb xc) (fun (u : KS) tt => rPo D (rA (wX q ad κ τ) sz) (wX q ad u τ) tt) (rA (wX q ad κ τ) sz)) 0 0 (rA (wX q ad κ τ) sz) := by
  have hi0 : vp_in xa 8 := hs.1
  have hi1 : vp_in xb 8 := hs.2.1
  have hi2 : vp_in xc 8 := hs.2.2
  refine r_start (cc := cX7_getFromRow) (maxL := 5) (ret := (some .int)) (by decide) rfl (Nat.le_of_ble_eq_true rfl) ?_
  intro p e s m below meth c ls hC hr hlk hnm hsz hw hl
  have hx := hC.1
  have hb := hC.2.1
  have hl : lv_has ls 5 [(0, .ref (ad 5)), (1, .ref (ad ρ)), (2, .int 1)] := hl
  refine lv_aload_n hx hb dX7_getFromRow_0 rfl (lv_at hl 0 rfl) ?_
  refine r_get hC hw rk7 in_X7_getFromRow_7 5 (wXl 5 (by decide)) wXc5 0 (by decide) lk_X7_getFromRow_9 (v := .ref (ad 2)) rfl dX7_getFromRow_1 ?_
  refine lv_aload_n hx hb dX7_getFromRow_4 rfl (lv_at hl 1 rfl) ?_
  refine r_get hC hw rk5 in_X7_getFromRow_5 ρ hst.1 hst.2 2 (by decide) lk_X7_getFromRow_74 (v := .int xb) rfl dX7_getFromRow_5 ?_
  refine r_kq hw (r_runV (rest := []) hC hw 2 (c_X3_getThing l _ _ 2 12 xb (wXl 2 (by decide)) wXc2 (wXl 12 (by decide)) wXc12) rk3 (wXl 2 (by decide)) wXc2 1 gX7_getFromRow_X3_getThing rfl rfl rfl (by decide +kernel) ⟨Nat.le_of_ble_eq_true rfl, Nat.le_of_ble_eq_true rfl⟩ rfl hl.1 rfl (Nat.le_of_ble_eq_true rfl) dX7_getFromRow_8 ⟨Nat.le_of_ble_eq_true rfl, Nat.le_of_ble_eq_true rfl⟩) (fun r_2 u_3 H locs h_1 hw => ?_)
  subst h_1
  by_cases n_4 : (sA κ 3 (aN xb)) = 0
  · refine r_topv (y := .null) (by rw [gN_in (by assumption) (by decide)]; show va_rf ((rT (sA κ 3 (aN xb))).map ad) = _; rw [rT0 n_4]; rfl) ?_
    refine lv_astore_nN (lv' := [(3, .null), (0, .ref (ad 5)), (1, .ref (ad ρ)), (2, .int 1)]) hx hb dX7_getFromRow_11 rfl hl (by decide) rfl (fun ls hl => ?_)
    refine lv_aload_n hx hb dX7_getFromRow_12 rfl (lv_at hl 1 rfl) ?_
    refine r_get hC hw rk7 in_X7_getFromRow_7 5 (wXl 5 (by decide)) wXc5 0 (by decide) lk_X7_getFromRow_9 (v := .ref (ad 2)) rfl dX7_getFromRow_13 ?_
    refine lv_aload_n hx hb dX7_getFromRow_16 rfl (lv_at hl 2 rfl) ?_
    refine r_get hC hw rk5 in_X7_getFromRow_5 ρ hst.1 hst.2 3 (by decide) lk_X7_getFromRow_57 (v := .int xc) rfl dX7_getFromRow_17 ?_
    refine r_ki hw (r_runV (rest := []) hC hw 2 (c_X3_getWord l _ _ 2 8 xc (wXl 2 (by decide)) wXc2 (wXl 8 (by decide)) wXc8) rk3 (wXl 2 (by decide)) wXc2 1 gX7_getFromRow_X3_getWord rfl rfl rfl (by decide +kernel) ⟨Nat.le_of_ble_eq_true rfl, Nat.le_of_ble_eq_true rfl⟩ rfl hl.1 rfl (Nat.le_of_ble_eq_true rfl) dX7_getFromRow_20 ⟨Nat.le_of_ble_eq_true rfl, Nat.le_of_ble_eq_true rfl⟩) (fun r_6 u_7 H locs h_5 hw => ?_)
    subst h_5
    refine r_topv (y := .int (sA κ 2 (aN xc))) (congrArg _ (gN_in (by assumption) (by decide))) ?_
    refine lv_istore (lv' := [(4, .int (sA κ 2 (aN xc))), (3, .null), (0, .ref (ad 5)), (1, .ref (ad ρ)), (2, .int 1)]) hx hb dX7_getFromRow_23 hl (by decide) rfl (fun ls hl => ?_)
    refine lv_aload_nN hx hb dX7_getFromRow_25 rfl (lv_at hl 1 rfl) ?_
    refine lv_iload_n hx hb dX7_getFromRow_26 rfl (lv_at hl 4 rfl) ?_
    refine r_ki hw (r_runSN (rest := []) hC hw hw.1.2.1 lks_X7_getFromRow lkz_X7_getFromRow_94 (c_X8_misfitsN_1 l _ _) 2 gX7_getFromRow_X8_misfits_n94 rfl rfl rfl (by decide +kernel) ⟨Nat.le_of_ble_eq_true rfl, Nat.le_of_ble_eq_true rfl⟩ rfl hl.1 rfl (Nat.le_of_ble_eq_true rfl) dX7_getFromRow_27 ⟨Nat.le_of_ble_eq_true rfl, Nat.le_of_ble_eq_true rfl⟩) (fun r_9 u_10 H locs h_8 hw => ?_)
    subst h_8
    have w_11 : ¬ pWrong κ (sA κ 3 (aN xb)) 1 := fun h => h.1 n_4
    refine lv_if_eq (tgt := 35) hx hb dX7_getFromRow_30 (by decide) (fun _ => ?_) (fun c_ => absurd (by decide) c_)
    refine lv_aload_nN hx hb dX7_getFromRow_35 rfl (lv_at hl 1 rfl) ?_
    refine lv_ifnonnullN hx hb dX7_getFromRow_36 ?_
    refine lv_iconst (v := 1) hx hb dX7_getFromRow_39 (by decide) ?_
    exact r_iret hC hr hlk hw κ rfl (doRf (κ := κ) (hd := hd) (th := th) (k := 40) (a := xa) (b := xb) (c := xc) ((if_neg w_11).trans (if_pos n_4)) (by decide)).symm (Nat.le_of_ble_eq_true rfl) (Nat.le_of_ble_eq_true rfl) dX7_getFromRow_40
  · refine r_topv (y := .ref (ad (100 + 4 * (aN ((sA κ 3 (aN xb)) - 1))))) (by rw [gN_in (by assumption) (by decide)]; show va_rf ((rT (sA κ 3 (aN xb))).map ad) = _; rw [rT1 n_4]; rfl) ?_
    have hB_b := hX.2.1 xb (by assumption) n_4
    have h6_b : (aN ((sA κ 3 (aN xb)) - 1)) < 60 := Nat.lt_of_lt_of_le hB_b.2 hX.1
    have hl_b : (wX q ad κ τ).2.1 (100 + 4 * (aN ((sA κ 3 (aN xb)) - 1))) := thl hB_b.2
    have hc_b : (wX q ad κ τ).2.2 (100 + 4 * (aN ((sA κ 3 (aN xb)) - 1))) = .inr (6, fsT ad κ (aN ((sA κ 3 (aN xb)) - 1))) := thc h6_b
    have hk_b := hX.2.2.1 _ hB_b.2
    refine lv_astore_n (lv' := [(3, .ref (ad (100 + 4 * (aN ((sA κ 3 (aN xb)) - 1))))), (0, .ref (ad 5)), (1, .ref (ad ρ)), (2, .int 1)]) hx hb dX7_getFromRow_11 rfl hl (by decide) rfl (fun ls hl => ?_)
    refine lv_aload_n hx hb dX7_getFromRow_12 rfl (lv_at hl 1 rfl) ?_
    refine r_get hC hw rk7 in_X7_getFromRow_7 5 (wXl 5 (by decide)) wXc5 0 (by decide) lk_X7_getFromRow_9 (v := .ref (ad 2)) rfl dX7_getFromRow_13 ?_
    refine lv_aload_n hx hb dX7_getFromRow_16 rfl (lv_at hl 2 rfl) ?_
    refine r_get hC hw rk5 in_X7_getFromRow_5 ρ hst.1 hst.2 3 (by decide) lk_X7_getFromRow_57 (v := .int xc) rfl dX7_getFromRow_17 ?_
    refine r_ki hw (r_runV (rest := []) hC hw 2 (c_X3_getWord l _ _ 2 8 xc (wXl 2 (by decide)) wXc2 (wXl 8 (by decide)) wXc8) rk3 (wXl 2 (by decide)) wXc2 1 gX7_getFromRow_X3_getWord rfl rfl rfl (by decide +kernel) ⟨Nat.le_of_ble_eq_true rfl, Nat.le_of_ble_eq_true rfl⟩ rfl hl.1 rfl (Nat.le_of_ble_eq_true rfl) dX7_getFromRow_20 ⟨Nat.le_of_ble_eq_true rfl, Nat.le_of_ble_eq_true rfl⟩) (fun r_13 u_14 H locs h_12 hw => ?_)
    subst h_12
    refine r_topv (y := .int (sA κ 2 (aN xc))) (congrArg _ (gN_in (by assumption) (by decide))) ?_
    refine lv_istore (lv' := [(4, .int (sA κ 2 (aN xc))), (3, .ref (ad (100 + 4 * (aN ((sA κ 3 (aN xb)) - 1))))), (0, .ref (ad 5)), (1, .ref (ad ρ)), (2, .int 1)]) hx hb dX7_getFromRow_23 hl (by decide) rfl (fun ls hl => ?_)
    refine lv_aload_n hx hb dX7_getFromRow_25 rfl (lv_at hl 1 rfl) ?_
    refine lv_iload_n hx hb dX7_getFromRow_26 rfl (lv_at hl 4 rfl) ?_
    refine r_ki hw (r_runSN (rest := []) hC hw hw.1.2.1 lks_X7_getFromRow lkz_X7_getFromRow_94 (c_X8_misfits_1 l _ _ (100 + 4 * (aN ((sA κ 3 (aN xb)) - 1))) hk_b.1 hl_b hc_b) 2 gX7_getFromRow_X8_misfits_n94 rfl rfl rfl (by decide +kernel) ⟨Nat.le_of_ble_eq_true rfl, Nat.le_of_ble_eq_true rfl⟩ rfl hl.1 rfl (Nat.le_of_ble_eq_true rfl) dX7_getFromRow_27 ⟨Nat.le_of_ble_eq_true rfl, Nat.le_of_ble_eq_true rfl⟩) (fun r_16 u_17 H locs h_15 hw => ?_)
    by_cases c_18 : pOf (sA κ 4 (aN ((sA κ 3 (aN xb)) - 1))) 1
    · rw [if_pos c_18] at h_15
      subst h_15
      have w_19 : ¬ pWrong κ (sA κ 3 (aN xb)) 1 := fun h => h.2 c_18
      refine lv_if_eq (tgt := 35) hx hb dX7_getFromRow_30 (by decide) (fun _ => ?_) (fun c_ => absurd (by decide) c_)
      refine lv_aload_n hx hb dX7_getFromRow_35 rfl (lv_at hl 1 rfl) ?_
      refine lv_ifnonnull (tgt := 41) hx hb dX7_getFromRow_36 (by decide) ?_
      refine lv_aload_n hx hb dX7_getFromRow_41 rfl (lv_at hl 1 rfl) ?_
      refine lv_iload hx hb dX7_getFromRow_42 (lv_at hl 0 rfl) ?_
      refine r_ki hw (r_runV (rest := []) hC hw (100 + 4 * (aN ((sA κ 3 (aN xb)) - 1))) (c_X6_hasPlace l _ _ (100 + 4 * (aN ((sA κ 3 (aN xb)) - 1))) (sA κ 2 (aN xc)) hl_b hc_b) rk6 hl_b hc_b 1 gX7_getFromRow_X6_hasPlace rfl rfl rfl (by decide +kernel) ⟨Nat.le_of_ble_eq_true rfl, Nat.le_of_ble_eq_true rfl⟩ rfl hl.1 rfl (Nat.le_of_ble_eq_true rfl) dX7_getFromRow_44 ⟨Nat.le_of_ble_eq_true rfl, Nat.le_of_ble_eq_true rfl⟩) (fun r_21 u_22 H locs h_20 hw => ?_)
      rw [hp_eq hk_b.2] at h_20
      by_cases c_23 : pIn (sA κ 2 (aN xc)) 0 ((sA κ 5 (aN ((sA κ 3 (aN xb)) - 1))) - 1)
      · rw [if_pos c_23] at h_20
        subst h_20
        have hix := ixN hB_b.1 c_23 hk_b.2
        refine lv_if_ne (tgt := 52) hx hb dX7_getFromRow_47 (by decide) (fun _ => ?_) (fun c_ => absurd c_ (by decide))
        refine lv_iload_n hx hb dX7_getFromRow_52 rfl (lv_at hl 4 rfl) ?_
        refine lv_iconst (v := 4) hx hb dX7_getFromRow_53 (by decide) ?_
        refine lv_icmp_gt (tgt := 78) hx hb dX7_getFromRow_54 (by decide) (fun c_ => absurd c_ (by decide)) (fun _ => ?_)
        refine lv_aload_n hx hb dX7_getFromRow_57 rfl (lv_at hl 2 rfl) ?_
        refine r_get hC hw rk7 in_X7_getFromRow_7 5 (wXl 5 (by decide)) wXc5 0 (by decide) lk_X7_getFromRow_9 (v := .ref (ad 2)) rfl dX7_getFromRow_58 ?_
        refine lv_aload_n hx hb dX7_getFromRow_61 rfl (lv_at hl 3 rfl) ?_
        refine r_get hC hw rk5 in_X7_getFromRow_5 ρ hst.1 hst.2 1 (by decide) lk_X7_getFromRow_69 (v := .int xa) rfl dX7_getFromRow_62 ?_
        refine lv_aload_n hx hb dX7_getFromRow_65 rfl (lv_at hl 1 rfl) ?_
        refine lv_iload hx hb dX7_getFromRow_66 (lv_at hl 0 rfl) ?_
        have hkd : sA κ 4 (aN ((sA κ 3 (aN xb)) - 1)) ≤ 5 := kd5 c_18
        refine r_kl hw (r_runV (rest := [.int xa, .ref (ad 2)]) hC hw (100 + 4 * (aN ((sA κ 3 (aN xb)) - 1))) (c_X6_getNumber (x1 := .null) l _ _ (100 + 4 * (aN ((sA κ 3 (aN xb)) - 1))) (101 + 4 * (aN ((sA κ 3 (aN xb)) - 1))) (sA κ 2 (aN xc)) hl_b hc_b (thl1 hB_b.2) (thc1 h6_b)) rk6 hl_b hc_b 1 gX7_getFromRow_X6_getNumber rfl rfl rfl (by decide +kernel) ⟨Nat.le_of_ble_eq_true rfl, Nat.le_of_ble_eq_true rfl⟩ rfl hl.1 rfl (Nat.le_of_ble_eq_true rfl) dX7_getFromRow_68 ⟨Nat.le_of_ble_eq_true rfl, Nat.le_of_ble_eq_true rfl⟩) (fun r_25 u_26 H locs h_24 hw => ?_)
        rw [getNum hkd hix.2.2 hix.2.1, ← hix.1] at h_24
        subst h_24
        refine lv_l2i (v := (sJ κ 1 (aN ((12 * ((sA κ 3 (aN xb)) - 1)) + (sA κ 2 (aN xc))))).toInt32) hx hb dX7_getFromRow_71 rfl ?_
        refine r_kv hw (r_runV (rest := []) hC hw 2 (c_X3_setWord l _ _ 2 8 xa ((sJ κ 1 (aN ((12 * ((sA κ 3 (aN xb)) - 1)) + (sA κ 2 (aN xc))))).toInt32) (by assumption) (wXl 2 (by decide)) wXc2 (wXl 8 (by decide)) wXc8) rk3 (wXl 2 (by decide)) wXc2 2 gX7_getFromRow_X3_setWord rfl rfl rfl (by decide +kernel) ⟨Nat.le_of_ble_eq_true rfl, Nat.le_of_ble_eq_true rfl⟩ rfl hl.1 rfl (Nat.le_of_ble_eq_true rfl) dX7_getFromRow_72 ⟨Nat.le_of_ble_eq_true rfl, Nat.le_of_ble_eq_true rfl⟩) (fun u_29 H locs h_27 hw => ?_)
        replace hw := xS_words hw
        refine lv_goto (tgt := 173) hx hb dX7_getFromRow_75 (by decide) ?_
        refine lv_iconst (v := 0) hx hb dX7_getFromRow_173 (by decide) ?_
        exact r_iret hC hr hlk hw (uA κ 2 (aN xa) ((sJ κ 1 (aN ((12 * ((sA κ 3 (aN xb)) - 1)) + (sA κ 2 (aN xc))))).toInt32)) rfl (doR0 (κ := κ) (hd := hd) (th := th) (k := 40) (a := xa) (b := xb) (c := xc) ((if_neg w_19).trans ((if_neg n_4).trans (if_pos c_23)))).symm (Nat.le_of_ble_eq_true rfl) (Nat.le_of_ble_eq_true rfl) dX7_getFromRow_174
      · rw [if_neg c_23] at h_20
        subst h_20
        refine lv_if_ne (tgt := 52) hx hb dX7_getFromRow_47 (by decide) (fun c_ => absurd (by decide) c_) (fun _ => ?_)
        refine lv_iconst (v := 2) hx hb dX7_getFromRow_50 (by decide) ?_
        exact r_iret hC hr hlk hw κ rfl (doRf (κ := κ) (hd := hd) (th := th) (k := 40) (a := xa) (b := xb) (c := xc) ((if_neg w_19).trans ((if_neg n_4).trans (if_neg c_23))) (by decide)).symm (Nat.le_of_ble_eq_true rfl) (Nat.le_of_ble_eq_true rfl) dX7_getFromRow_51
    · rw [if_neg c_18] at h_15
      subst h_15
      have w_30 : pWrong κ (sA κ 3 (aN xb)) 1 := ⟨n_4, c_18⟩
      refine lv_if_eq (tgt := 35) hx hb dX7_getFromRow_30 (by decide) (fun c_ => absurd c_ (by decide)) (fun _ => ?_)
      refine lv_iconst (v := 4) hx hb dX7_getFromRow_33 (by decide) ?_
      exact r_iret hC hr hlk hw κ rfl (doRf (κ := κ) (hd := hd) (th := th) (k := 40) (a := xa) (b := xb) (c := xc) (if_pos w_30) (by decide)).symm (Nat.le_of_ble_eq_true rfl) (Nat.le_of_ble_eq_true rfl) dX7_getFromRow_34

set_option maxHeartbeats 4000000 in
set_option maxRecDepth 100000 in
theorem c_X7_getFromRow_41 (l : Launch) {D : va_G} {q : Nat → ClassId} {ad : Nat → Nat} {κ : KS} {τ : TAU} (sz : Nat) (ρ : Nat) (xa xb xc hd th : Int32) (hst : stepAt q ad κ τ ρ 41 xa xb xc) (hs : okStep 41 xa xb xc)(hX : WFx κ) (hN : nnOp κ 41 xa xb xc) : Met l yX7_getFromRow wsX7_getFromRow (rmz 2 42) (va_Pc [.ref (ad 5), .ref (ad ρ), .int 2] (rPre D q (wX q ad κ τ) sz)) (va_Qi (fun (r : Int32) (u : KS) => (r, u) = doR κ hd th 41 xa xb xc) (fun (u : KS) tt => rPo D (rA (wX q ad κ τ) sz) (wX q ad u τ) tt) (rA (wX q ad κ τ) sz)) 0 0 (rA (wX q ad κ τ) sz) := by
  have hi0 : vp_in xa 8 := hs.1
  have hi1 : vp_in xb 8 := hs.2.1
  have hi2 : vp_in xc 8 := hs.2.2
  refine r_start (cc := cX7_getFromRow) (maxL := 5) (ret := (some .int)) (by decide) rfl (Nat.le_of_ble_eq_true rfl) ?_
  intro p e s m below meth c ls hC hr hlk hnm hsz hw hl
  have hx := hC.1
  have hb := hC.2.1
  have hl : lv_has ls 5 [(0, .ref (ad 5)), (1, .ref (ad ρ)), (2, .int 2)] := hl
  refine lv_aload_n hx hb dX7_getFromRow_0 rfl (lv_at hl 0 rfl) ?_
  refine r_get hC hw rk7 in_X7_getFromRow_7 5 (wXl 5 (by decide)) wXc5 0 (by decide) lk_X7_getFromRow_9 (v := .ref (ad 2)) rfl dX7_getFromRow_1 ?_
  refine lv_aload_n hx hb dX7_getFromRow_4 rfl (lv_at hl 1 rfl) ?_
  refine r_get hC hw rk5 in_X7_getFromRow_5 ρ hst.1 hst.2 2 (by decide) lk_X7_getFromRow_74 (v := .int xb) rfl dX7_getFromRow_5 ?_
  refine r_kq hw (r_runV (rest := []) hC hw 2 (c_X3_getThing l _ _ 2 12 xb (wXl 2 (by decide)) wXc2 (wXl 12 (by decide)) wXc12) rk3 (wXl 2 (by decide)) wXc2 1 gX7_getFromRow_X3_getThing rfl rfl rfl (by decide +kernel) ⟨Nat.le_of_ble_eq_true rfl, Nat.le_of_ble_eq_true rfl⟩ rfl hl.1 rfl (Nat.le_of_ble_eq_true rfl) dX7_getFromRow_8 ⟨Nat.le_of_ble_eq_true rfl, Nat.le_of_ble_eq_true rfl⟩) (fun r_2 u_3 H locs h_1 hw => ?_)
  subst h_1
  by_cases n_4 : (sA κ 3 (aN xb)) = 0
  · refine r_topv (y := .null) (by rw [gN_in (by assumption) (by decide)]; show va_rf ((rT (sA κ 3 (aN xb))).map ad) = _; rw [rT0 n_4]; rfl) ?_
    refine lv_astore_nN (lv' := [(3, .null), (0, .ref (ad 5)), (1, .ref (ad ρ)), (2, .int 2)]) hx hb dX7_getFromRow_11 rfl hl (by decide) rfl (fun ls hl => ?_)
    refine lv_aload_n hx hb dX7_getFromRow_12 rfl (lv_at hl 1 rfl) ?_
    refine r_get hC hw rk7 in_X7_getFromRow_7 5 (wXl 5 (by decide)) wXc5 0 (by decide) lk_X7_getFromRow_9 (v := .ref (ad 2)) rfl dX7_getFromRow_13 ?_
    refine lv_aload_n hx hb dX7_getFromRow_16 rfl (lv_at hl 2 rfl) ?_
    refine r_get hC hw rk5 in_X7_getFromRow_5 ρ hst.1 hst.2 3 (by decide) lk_X7_getFromRow_57 (v := .int xc) rfl dX7_getFromRow_17 ?_
    refine r_ki hw (r_runV (rest := []) hC hw 2 (c_X3_getWord l _ _ 2 8 xc (wXl 2 (by decide)) wXc2 (wXl 8 (by decide)) wXc8) rk3 (wXl 2 (by decide)) wXc2 1 gX7_getFromRow_X3_getWord rfl rfl rfl (by decide +kernel) ⟨Nat.le_of_ble_eq_true rfl, Nat.le_of_ble_eq_true rfl⟩ rfl hl.1 rfl (Nat.le_of_ble_eq_true rfl) dX7_getFromRow_20 ⟨Nat.le_of_ble_eq_true rfl, Nat.le_of_ble_eq_true rfl⟩) (fun r_6 u_7 H locs h_5 hw => ?_)
    subst h_5
    refine r_topv (y := .int (sA κ 2 (aN xc))) (congrArg _ (gN_in (by assumption) (by decide))) ?_
    refine lv_istore (lv' := [(4, .int (sA κ 2 (aN xc))), (3, .null), (0, .ref (ad 5)), (1, .ref (ad ρ)), (2, .int 2)]) hx hb dX7_getFromRow_23 hl (by decide) rfl (fun ls hl => ?_)
    refine lv_aload_nN hx hb dX7_getFromRow_25 rfl (lv_at hl 1 rfl) ?_
    refine lv_iload_n hx hb dX7_getFromRow_26 rfl (lv_at hl 4 rfl) ?_
    refine r_ki hw (r_runSN (rest := []) hC hw hw.1.2.1 lks_X7_getFromRow lkz_X7_getFromRow_94 (c_X8_misfitsN_2 l _ _) 2 gX7_getFromRow_X8_misfits_n94 rfl rfl rfl (by decide +kernel) ⟨Nat.le_of_ble_eq_true rfl, Nat.le_of_ble_eq_true rfl⟩ rfl hl.1 rfl (Nat.le_of_ble_eq_true rfl) dX7_getFromRow_27 ⟨Nat.le_of_ble_eq_true rfl, Nat.le_of_ble_eq_true rfl⟩) (fun r_9 u_10 H locs h_8 hw => ?_)
    subst h_8
    have w_11 : ¬ pWrong κ (sA κ 3 (aN xb)) 2 := fun h => h.1 n_4
    refine lv_if_eq (tgt := 35) hx hb dX7_getFromRow_30 (by decide) (fun _ => ?_) (fun c_ => absurd (by decide) c_)
    refine lv_aload_nN hx hb dX7_getFromRow_35 rfl (lv_at hl 1 rfl) ?_
    refine lv_ifnonnullN hx hb dX7_getFromRow_36 ?_
    refine lv_iconst (v := 1) hx hb dX7_getFromRow_39 (by decide) ?_
    exact r_iret hC hr hlk hw κ rfl (doRf (κ := κ) (hd := hd) (th := th) (k := 41) (a := xa) (b := xb) (c := xc) ((if_neg w_11).trans (if_pos n_4)) (by decide)).symm (Nat.le_of_ble_eq_true rfl) (Nat.le_of_ble_eq_true rfl) dX7_getFromRow_40
  · refine r_topv (y := .ref (ad (100 + 4 * (aN ((sA κ 3 (aN xb)) - 1))))) (by rw [gN_in (by assumption) (by decide)]; show va_rf ((rT (sA κ 3 (aN xb))).map ad) = _; rw [rT1 n_4]; rfl) ?_
    have hB_b := hX.2.1 xb (by assumption) n_4
    have h6_b : (aN ((sA κ 3 (aN xb)) - 1)) < 60 := Nat.lt_of_lt_of_le hB_b.2 hX.1
    have hl_b : (wX q ad κ τ).2.1 (100 + 4 * (aN ((sA κ 3 (aN xb)) - 1))) := thl hB_b.2
    have hc_b : (wX q ad κ τ).2.2 (100 + 4 * (aN ((sA κ 3 (aN xb)) - 1))) = .inr (6, fsT ad κ (aN ((sA κ 3 (aN xb)) - 1))) := thc h6_b
    have hk_b := hX.2.2.1 _ hB_b.2
    refine lv_astore_n (lv' := [(3, .ref (ad (100 + 4 * (aN ((sA κ 3 (aN xb)) - 1))))), (0, .ref (ad 5)), (1, .ref (ad ρ)), (2, .int 2)]) hx hb dX7_getFromRow_11 rfl hl (by decide) rfl (fun ls hl => ?_)
    refine lv_aload_n hx hb dX7_getFromRow_12 rfl (lv_at hl 1 rfl) ?_
    refine r_get hC hw rk7 in_X7_getFromRow_7 5 (wXl 5 (by decide)) wXc5 0 (by decide) lk_X7_getFromRow_9 (v := .ref (ad 2)) rfl dX7_getFromRow_13 ?_
    refine lv_aload_n hx hb dX7_getFromRow_16 rfl (lv_at hl 2 rfl) ?_
    refine r_get hC hw rk5 in_X7_getFromRow_5 ρ hst.1 hst.2 3 (by decide) lk_X7_getFromRow_57 (v := .int xc) rfl dX7_getFromRow_17 ?_
    refine r_ki hw (r_runV (rest := []) hC hw 2 (c_X3_getWord l _ _ 2 8 xc (wXl 2 (by decide)) wXc2 (wXl 8 (by decide)) wXc8) rk3 (wXl 2 (by decide)) wXc2 1 gX7_getFromRow_X3_getWord rfl rfl rfl (by decide +kernel) ⟨Nat.le_of_ble_eq_true rfl, Nat.le_of_ble_eq_true rfl⟩ rfl hl.1 rfl (Nat.le_of_ble_eq_true rfl) dX7_getFromRow_20 ⟨Nat.le_of_ble_eq_true rfl, Nat.le_of_ble_eq_true rfl⟩) (fun r_13 u_14 H locs h_12 hw => ?_)
    subst h_12
    refine r_topv (y := .int (sA κ 2 (aN xc))) (congrArg _ (gN_in (by assumption) (by decide))) ?_
    refine lv_istore (lv' := [(4, .int (sA κ 2 (aN xc))), (3, .ref (ad (100 + 4 * (aN ((sA κ 3 (aN xb)) - 1))))), (0, .ref (ad 5)), (1, .ref (ad ρ)), (2, .int 2)]) hx hb dX7_getFromRow_23 hl (by decide) rfl (fun ls hl => ?_)
    refine lv_aload_n hx hb dX7_getFromRow_25 rfl (lv_at hl 1 rfl) ?_
    refine lv_iload_n hx hb dX7_getFromRow_26 rfl (lv_at hl 4 rfl) ?_
    refine r_ki hw (r_runSN (rest := []) hC hw hw.1.2.1 lks_X7_getFromRow lkz_X7_getFromRow_94 (c_X8_misfits_2 l _ _ (100 + 4 * (aN ((sA κ 3 (aN xb)) - 1))) hk_b.1 hl_b hc_b) 2 gX7_getFromRow_X8_misfits_n94 rfl rfl rfl (by decide +kernel) ⟨Nat.le_of_ble_eq_true rfl, Nat.le_of_ble_eq_true rfl⟩ rfl hl.1 rfl (Nat.le_of_ble_eq_true rfl) dX7_getFromRow_27 ⟨Nat.le_of_ble_eq_true rfl, Nat.le_of_ble_eq_true rfl⟩) (fun r_16 u_17 H locs h_15 hw => ?_)
    by_cases c_18 : pOf (sA κ 4 (aN ((sA κ 3 (aN xb)) - 1))) 2
    · rw [if_pos c_18] at h_15
      subst h_15
      have w_19 : ¬ pWrong κ (sA κ 3 (aN xb)) 2 := fun h => h.2 c_18
      refine lv_if_eq (tgt := 35) hx hb dX7_getFromRow_30 (by decide) (fun _ => ?_) (fun c_ => absurd (by decide) c_)
      refine lv_aload_n hx hb dX7_getFromRow_35 rfl (lv_at hl 1 rfl) ?_
      refine lv_ifnonnull (tgt := 41) hx hb dX7_getFromRow_36 (by decide) ?_
      refine lv_aload_n hx hb dX7_getFromRow_41 rfl (lv_at hl 1 rfl) ?_
      refine lv_iload hx hb dX7_getFromRow_42 (lv_at hl 0 rfl) ?_
      refine r_ki hw (r_runV (rest := []) hC hw (100 + 4 * (aN ((sA κ 3 (aN xb)) - 1))) (c_X6_hasPlace l _ _ (100 + 4 * (aN ((sA κ 3 (aN xb)) - 1))) (sA κ 2 (aN xc)) hl_b hc_b) rk6 hl_b hc_b 1 gX7_getFromRow_X6_hasPlace rfl rfl rfl (by decide +kernel) ⟨Nat.le_of_ble_eq_true rfl, Nat.le_of_ble_eq_true rfl⟩ rfl hl.1 rfl (Nat.le_of_ble_eq_true rfl) dX7_getFromRow_44 ⟨Nat.le_of_ble_eq_true rfl, Nat.le_of_ble_eq_true rfl⟩) (fun r_21 u_22 H locs h_20 hw => ?_)
      rw [hp_eq hk_b.2] at h_20
      by_cases c_23 : pIn (sA κ 2 (aN xc)) 0 ((sA κ 5 (aN ((sA κ 3 (aN xb)) - 1))) - 1)
      · rw [if_pos c_23] at h_20
        subst h_20
        have hix := ixN hB_b.1 c_23 hk_b.2
        refine lv_if_ne (tgt := 52) hx hb dX7_getFromRow_47 (by decide) (fun _ => ?_) (fun c_ => absurd c_ (by decide))
        refine lv_iload_n hx hb dX7_getFromRow_52 rfl (lv_at hl 4 rfl) ?_
        refine lv_iconst (v := 4) hx hb dX7_getFromRow_53 (by decide) ?_
        refine lv_icmp_gt (tgt := 78) hx hb dX7_getFromRow_54 (by decide) (fun c_ => absurd c_ (by decide)) (fun _ => ?_)
        refine lv_aload_n hx hb dX7_getFromRow_57 rfl (lv_at hl 2 rfl) ?_
        refine r_get hC hw rk7 in_X7_getFromRow_7 5 (wXl 5 (by decide)) wXc5 0 (by decide) lk_X7_getFromRow_9 (v := .ref (ad 2)) rfl dX7_getFromRow_58 ?_
        refine lv_aload_n hx hb dX7_getFromRow_61 rfl (lv_at hl 3 rfl) ?_
        refine r_get hC hw rk5 in_X7_getFromRow_5 ρ hst.1 hst.2 1 (by decide) lk_X7_getFromRow_69 (v := .int xa) rfl dX7_getFromRow_62 ?_
        refine lv_aload_n hx hb dX7_getFromRow_65 rfl (lv_at hl 1 rfl) ?_
        refine lv_iload hx hb dX7_getFromRow_66 (lv_at hl 0 rfl) ?_
        have hkd : sA κ 4 (aN ((sA κ 3 (aN xb)) - 1)) ≤ 5 := kd5 c_18
        refine r_kl hw (r_runV (rest := [.int xa, .ref (ad 2)]) hC hw (100 + 4 * (aN ((sA κ 3 (aN xb)) - 1))) (c_X6_getNumber (x1 := .null) l _ _ (100 + 4 * (aN ((sA κ 3 (aN xb)) - 1))) (101 + 4 * (aN ((sA κ 3 (aN xb)) - 1))) (sA κ 2 (aN xc)) hl_b hc_b (thl1 hB_b.2) (thc1 h6_b)) rk6 hl_b hc_b 1 gX7_getFromRow_X6_getNumber rfl rfl rfl (by decide +kernel) ⟨Nat.le_of_ble_eq_true rfl, Nat.le_of_ble_eq_true rfl⟩ rfl hl.1 rfl (Nat.le_of_ble_eq_true rfl) dX7_getFromRow_68 ⟨Nat.le_of_ble_eq_true rfl, Nat.le_of_ble_eq_true rfl⟩) (fun r_25 u_26 H locs h_24 hw => ?_)
        rw [getNum hkd hix.2.2 hix.2.1, ← hix.1] at h_24
        subst h_24
        refine lv_l2i (v := (sJ κ 1 (aN ((12 * ((sA κ 3 (aN xb)) - 1)) + (sA κ 2 (aN xc))))).toInt32) hx hb dX7_getFromRow_71 rfl ?_
        refine r_kv hw (r_runV (rest := []) hC hw 2 (c_X3_setWord l _ _ 2 8 xa ((sJ κ 1 (aN ((12 * ((sA κ 3 (aN xb)) - 1)) + (sA κ 2 (aN xc))))).toInt32) (by assumption) (wXl 2 (by decide)) wXc2 (wXl 8 (by decide)) wXc8) rk3 (wXl 2 (by decide)) wXc2 2 gX7_getFromRow_X3_setWord rfl rfl rfl (by decide +kernel) ⟨Nat.le_of_ble_eq_true rfl, Nat.le_of_ble_eq_true rfl⟩ rfl hl.1 rfl (Nat.le_of_ble_eq_true rfl) dX7_getFromRow_72 ⟨Nat.le_of_ble_eq_true rfl, Nat.le_of_ble_eq_true rfl⟩) (fun u_29 H locs h_27 hw => ?_)
        replace hw := xS_words hw
        refine lv_goto (tgt := 173) hx hb dX7_getFromRow_75 (by decide) ?_
        refine lv_iconst (v := 0) hx hb dX7_getFromRow_173 (by decide) ?_
        exact r_iret hC hr hlk hw (uA κ 2 (aN xa) ((sJ κ 1 (aN ((12 * ((sA κ 3 (aN xb)) - 1)) + (sA κ 2 (aN xc))))).toInt32)) rfl (doR0 (κ := κ) (hd := hd) (th := th) (k := 41) (a := xa) (b := xb) (c := xc) ((if_neg w_19).trans ((if_neg n_4).trans (if_pos c_23)))).symm (Nat.le_of_ble_eq_true rfl) (Nat.le_of_ble_eq_true rfl) dX7_getFromRow_174
      · rw [if_neg c_23] at h_20
        subst h_20
        refine lv_if_ne (tgt := 52) hx hb dX7_getFromRow_47 (by decide) (fun c_ => absurd (by decide) c_) (fun _ => ?_)
        refine lv_iconst (v := 2) hx hb dX7_getFromRow_50 (by decide) ?_
        exact r_iret hC hr hlk hw κ rfl (doRf (κ := κ) (hd := hd) (th := th) (k := 41) (a := xa) (b := xb) (c := xc) ((if_neg w_19).trans ((if_neg n_4).trans (if_neg c_23))) (by decide)).symm (Nat.le_of_ble_eq_true rfl) (Nat.le_of_ble_eq_true rfl) dX7_getFromRow_51
    · rw [if_neg c_18] at h_15
      subst h_15
      have w_30 : pWrong κ (sA κ 3 (aN xb)) 2 := ⟨n_4, c_18⟩
      refine lv_if_eq (tgt := 35) hx hb dX7_getFromRow_30 (by decide) (fun c_ => absurd c_ (by decide)) (fun _ => ?_)
      refine lv_iconst (v := 4) hx hb dX7_getFromRow_33 (by decide) ?_
      exact r_iret hC hr hlk hw κ rfl (doRf (κ := κ) (hd := hd) (th := th) (k := 41) (a := xa) (b := xb) (c := xc) (if_pos w_30) (by decide)).symm (Nat.le_of_ble_eq_true rfl) (Nat.le_of_ble_eq_true rfl) dX7_getFromRow_34

set_option maxHeartbeats 4000000 in
set_option maxRecDepth 100000 in
theorem c_X7_getFromRow_42 (l : Launch) {D : va_G} {q : Nat → ClassId} {ad : Nat → Nat} {κ : KS} {τ : TAU} (sz : Nat) (ρ : Nat) (xa xb xc hd th : Int32) (hst : stepAt q ad κ τ ρ 42 xa xb xc) (hs : okStep 42 xa xb xc)(hX : WFx κ) (hN : nnOp κ 42 xa xb xc) : Met l yX7_getFromRow wsX7_getFromRow (rmz 2 42) (va_Pc [.ref (ad 5), .ref (ad ρ), .int 3] (rPre D q (wX q ad κ τ) sz)) (va_Qi (fun (r : Int32) (u : KS) => (r, u) = doR κ hd th 42 xa xb xc) (fun (u : KS) tt => rPo D (rA (wX q ad κ τ) sz) (wX q ad u τ) tt) (rA (wX q ad κ τ) sz)) 0 0 (rA (wX q ad κ τ) sz) := by
  have hi0 : vp_in xa 8 := hs.1
  have hi1 : vp_in xb 8 := hs.2.1
  have hi2 : vp_in xc 8 := hs.2.2
  refine r_start (cc := cX7_getFromRow) (maxL := 5) (ret := (some .int)) (by decide) rfl (Nat.le_of_ble_eq_true rfl) ?_
  intro p e s m below meth c ls hC hr hlk hnm hsz hw hl
  have hx := hC.1
  have hb := hC.2.1
  have hl : lv_has ls 5 [(0, .ref (ad 5)), (1, .ref (ad ρ)), (2, .int 3)] := hl
  refine lv_aload_n hx hb dX7_getFromRow_0 rfl (lv_at hl 0 rfl) ?_
  refine r_get hC hw rk7 in_X7_getFromRow_7 5 (wXl 5 (by decide)) wXc5 0 (by decide) lk_X7_getFromRow_9 (v := .ref (ad 2)) rfl dX7_getFromRow_1 ?_
  refine lv_aload_n hx hb dX7_getFromRow_4 rfl (lv_at hl 1 rfl) ?_
  refine r_get hC hw rk5 in_X7_getFromRow_5 ρ hst.1 hst.2 2 (by decide) lk_X7_getFromRow_74 (v := .int xb) rfl dX7_getFromRow_5 ?_
  refine r_kq hw (r_runV (rest := []) hC hw 2 (c_X3_getThing l _ _ 2 12 xb (wXl 2 (by decide)) wXc2 (wXl 12 (by decide)) wXc12) rk3 (wXl 2 (by decide)) wXc2 1 gX7_getFromRow_X3_getThing rfl rfl rfl (by decide +kernel) ⟨Nat.le_of_ble_eq_true rfl, Nat.le_of_ble_eq_true rfl⟩ rfl hl.1 rfl (Nat.le_of_ble_eq_true rfl) dX7_getFromRow_8 ⟨Nat.le_of_ble_eq_true rfl, Nat.le_of_ble_eq_true rfl⟩) (fun r_2 u_3 H locs h_1 hw => ?_)
  subst h_1
  by_cases n_4 : (sA κ 3 (aN xb)) = 0
  · refine r_topv (y := .null) (by rw [gN_in (by assumption) (by decide)]; show va_rf ((rT (sA κ 3 (aN xb))).map ad) = _; rw [rT0 n_4]; rfl) ?_
    refine lv_astore_nN (lv' := [(3, .null), (0, .ref (ad 5)), (1, .ref (ad ρ)), (2, .int 3)]) hx hb dX7_getFromRow_11 rfl hl (by decide) rfl (fun ls hl => ?_)
    refine lv_aload_n hx hb dX7_getFromRow_12 rfl (lv_at hl 1 rfl) ?_
    refine r_get hC hw rk7 in_X7_getFromRow_7 5 (wXl 5 (by decide)) wXc5 0 (by decide) lk_X7_getFromRow_9 (v := .ref (ad 2)) rfl dX7_getFromRow_13 ?_
    refine lv_aload_n hx hb dX7_getFromRow_16 rfl (lv_at hl 2 rfl) ?_
    refine r_get hC hw rk5 in_X7_getFromRow_5 ρ hst.1 hst.2 3 (by decide) lk_X7_getFromRow_57 (v := .int xc) rfl dX7_getFromRow_17 ?_
    refine r_ki hw (r_runV (rest := []) hC hw 2 (c_X3_getWord l _ _ 2 8 xc (wXl 2 (by decide)) wXc2 (wXl 8 (by decide)) wXc8) rk3 (wXl 2 (by decide)) wXc2 1 gX7_getFromRow_X3_getWord rfl rfl rfl (by decide +kernel) ⟨Nat.le_of_ble_eq_true rfl, Nat.le_of_ble_eq_true rfl⟩ rfl hl.1 rfl (Nat.le_of_ble_eq_true rfl) dX7_getFromRow_20 ⟨Nat.le_of_ble_eq_true rfl, Nat.le_of_ble_eq_true rfl⟩) (fun r_6 u_7 H locs h_5 hw => ?_)
    subst h_5
    refine r_topv (y := .int (sA κ 2 (aN xc))) (congrArg _ (gN_in (by assumption) (by decide))) ?_
    refine lv_istore (lv' := [(4, .int (sA κ 2 (aN xc))), (3, .null), (0, .ref (ad 5)), (1, .ref (ad ρ)), (2, .int 3)]) hx hb dX7_getFromRow_23 hl (by decide) rfl (fun ls hl => ?_)
    refine lv_aload_nN hx hb dX7_getFromRow_25 rfl (lv_at hl 1 rfl) ?_
    refine lv_iload_n hx hb dX7_getFromRow_26 rfl (lv_at hl 4 rfl) ?_
    refine r_ki hw (r_runSN (rest := []) hC hw hw.1.2.1 lks_X7_getFromRow lkz_X7_getFromRow_94 (c_X8_misfitsN_3 l _ _) 2 gX7_getFromRow_X8_misfits_n94 rfl rfl rfl (by decide +kernel) ⟨Nat.le_of_ble_eq_true rfl, Nat.le_of_ble_eq_true rfl⟩ rfl hl.1 rfl (Nat.le_of_ble_eq_true rfl) dX7_getFromRow_27 ⟨Nat.le_of_ble_eq_true rfl, Nat.le_of_ble_eq_true rfl⟩) (fun r_9 u_10 H locs h_8 hw => ?_)
    subst h_8
    have w_11 : ¬ pWrong κ (sA κ 3 (aN xb)) 3 := fun h => h.1 n_4
    refine lv_if_eq (tgt := 35) hx hb dX7_getFromRow_30 (by decide) (fun _ => ?_) (fun c_ => absurd (by decide) c_)
    refine lv_aload_nN hx hb dX7_getFromRow_35 rfl (lv_at hl 1 rfl) ?_
    refine lv_ifnonnullN hx hb dX7_getFromRow_36 ?_
    refine lv_iconst (v := 1) hx hb dX7_getFromRow_39 (by decide) ?_
    exact r_iret hC hr hlk hw κ rfl (doRf (κ := κ) (hd := hd) (th := th) (k := 42) (a := xa) (b := xb) (c := xc) ((if_neg w_11).trans (if_pos n_4)) (by decide)).symm (Nat.le_of_ble_eq_true rfl) (Nat.le_of_ble_eq_true rfl) dX7_getFromRow_40
  · refine r_topv (y := .ref (ad (100 + 4 * (aN ((sA κ 3 (aN xb)) - 1))))) (by rw [gN_in (by assumption) (by decide)]; show va_rf ((rT (sA κ 3 (aN xb))).map ad) = _; rw [rT1 n_4]; rfl) ?_
    have hB_b := hX.2.1 xb (by assumption) n_4
    have h6_b : (aN ((sA κ 3 (aN xb)) - 1)) < 60 := Nat.lt_of_lt_of_le hB_b.2 hX.1
    have hl_b : (wX q ad κ τ).2.1 (100 + 4 * (aN ((sA κ 3 (aN xb)) - 1))) := thl hB_b.2
    have hc_b : (wX q ad κ τ).2.2 (100 + 4 * (aN ((sA κ 3 (aN xb)) - 1))) = .inr (6, fsT ad κ (aN ((sA κ 3 (aN xb)) - 1))) := thc h6_b
    have hk_b := hX.2.2.1 _ hB_b.2
    refine lv_astore_n (lv' := [(3, .ref (ad (100 + 4 * (aN ((sA κ 3 (aN xb)) - 1))))), (0, .ref (ad 5)), (1, .ref (ad ρ)), (2, .int 3)]) hx hb dX7_getFromRow_11 rfl hl (by decide) rfl (fun ls hl => ?_)
    refine lv_aload_n hx hb dX7_getFromRow_12 rfl (lv_at hl 1 rfl) ?_
    refine r_get hC hw rk7 in_X7_getFromRow_7 5 (wXl 5 (by decide)) wXc5 0 (by decide) lk_X7_getFromRow_9 (v := .ref (ad 2)) rfl dX7_getFromRow_13 ?_
    refine lv_aload_n hx hb dX7_getFromRow_16 rfl (lv_at hl 2 rfl) ?_
    refine r_get hC hw rk5 in_X7_getFromRow_5 ρ hst.1 hst.2 3 (by decide) lk_X7_getFromRow_57 (v := .int xc) rfl dX7_getFromRow_17 ?_
    refine r_ki hw (r_runV (rest := []) hC hw 2 (c_X3_getWord l _ _ 2 8 xc (wXl 2 (by decide)) wXc2 (wXl 8 (by decide)) wXc8) rk3 (wXl 2 (by decide)) wXc2 1 gX7_getFromRow_X3_getWord rfl rfl rfl (by decide +kernel) ⟨Nat.le_of_ble_eq_true rfl, Nat.le_of_ble_eq_true rfl⟩ rfl hl.1 rfl (Nat.le_of_ble_eq_true rfl) dX7_getFromRow_20 ⟨Nat.le_of_ble_eq_true rfl, Nat.le_of_ble_eq_true rfl⟩) (fun r_13 u_14 H locs h_12 hw => ?_)
    subst h_12
    refine r_topv (y := .int (sA κ 2 (aN xc))) (congrArg _ (gN_in (by assumption) (by decide))) ?_
    refine lv_istore (lv' := [(4, .int (sA κ 2 (aN xc))), (3, .ref (ad (100 + 4 * (aN ((sA κ 3 (aN xb)) - 1))))), (0, .ref (ad 5)), (1, .ref (ad ρ)), (2, .int 3)]) hx hb dX7_getFromRow_23 hl (by decide) rfl (fun ls hl => ?_)
    refine lv_aload_n hx hb dX7_getFromRow_25 rfl (lv_at hl 1 rfl) ?_
    refine lv_iload_n hx hb dX7_getFromRow_26 rfl (lv_at hl 4 rfl) ?_
    refine r_ki hw (r_runSN (rest := []) hC hw hw.1.2.1 lks_X7_getFromRow lkz_X7_getFromRow_94 (c_X8_misfits_3 l _ _ (100 + 4 * (aN ((sA κ 3 (aN xb)) - 1))) hk_b.1 hl_b hc_b) 2 gX7_getFromRow_X8_misfits_n94 rfl rfl rfl (by decide +kernel) ⟨Nat.le_of_ble_eq_true rfl, Nat.le_of_ble_eq_true rfl⟩ rfl hl.1 rfl (Nat.le_of_ble_eq_true rfl) dX7_getFromRow_27 ⟨Nat.le_of_ble_eq_true rfl, Nat.le_of_ble_eq_true rfl⟩) (fun r_16 u_17 H locs h_15 hw => ?_)
    by_cases c_18 : pOf (sA κ 4 (aN ((sA κ 3 (aN xb)) - 1))) 3
    · rw [if_pos c_18] at h_15
      subst h_15
      have w_19 : ¬ pWrong κ (sA κ 3 (aN xb)) 3 := fun h => h.2 c_18
      refine lv_if_eq (tgt := 35) hx hb dX7_getFromRow_30 (by decide) (fun _ => ?_) (fun c_ => absurd (by decide) c_)
      refine lv_aload_n hx hb dX7_getFromRow_35 rfl (lv_at hl 1 rfl) ?_
      refine lv_ifnonnull (tgt := 41) hx hb dX7_getFromRow_36 (by decide) ?_
      refine lv_aload_n hx hb dX7_getFromRow_41 rfl (lv_at hl 1 rfl) ?_
      refine lv_iload hx hb dX7_getFromRow_42 (lv_at hl 0 rfl) ?_
      refine r_ki hw (r_runV (rest := []) hC hw (100 + 4 * (aN ((sA κ 3 (aN xb)) - 1))) (c_X6_hasPlace l _ _ (100 + 4 * (aN ((sA κ 3 (aN xb)) - 1))) (sA κ 2 (aN xc)) hl_b hc_b) rk6 hl_b hc_b 1 gX7_getFromRow_X6_hasPlace rfl rfl rfl (by decide +kernel) ⟨Nat.le_of_ble_eq_true rfl, Nat.le_of_ble_eq_true rfl⟩ rfl hl.1 rfl (Nat.le_of_ble_eq_true rfl) dX7_getFromRow_44 ⟨Nat.le_of_ble_eq_true rfl, Nat.le_of_ble_eq_true rfl⟩) (fun r_21 u_22 H locs h_20 hw => ?_)
      rw [hp_eq hk_b.2] at h_20
      by_cases c_23 : pIn (sA κ 2 (aN xc)) 0 ((sA κ 5 (aN ((sA κ 3 (aN xb)) - 1))) - 1)
      · rw [if_pos c_23] at h_20
        subst h_20
        have hix := ixN hB_b.1 c_23 hk_b.2
        refine lv_if_ne (tgt := 52) hx hb dX7_getFromRow_47 (by decide) (fun _ => ?_) (fun c_ => absurd c_ (by decide))
        refine lv_iload_n hx hb dX7_getFromRow_52 rfl (lv_at hl 4 rfl) ?_
        refine lv_iconst (v := 4) hx hb dX7_getFromRow_53 (by decide) ?_
        refine lv_icmp_gt (tgt := 78) hx hb dX7_getFromRow_54 (by decide) (fun c_ => absurd c_ (by decide)) (fun _ => ?_)
        refine lv_aload_n hx hb dX7_getFromRow_57 rfl (lv_at hl 2 rfl) ?_
        refine r_get hC hw rk7 in_X7_getFromRow_7 5 (wXl 5 (by decide)) wXc5 0 (by decide) lk_X7_getFromRow_9 (v := .ref (ad 2)) rfl dX7_getFromRow_58 ?_
        refine lv_aload_n hx hb dX7_getFromRow_61 rfl (lv_at hl 3 rfl) ?_
        refine r_get hC hw rk5 in_X7_getFromRow_5 ρ hst.1 hst.2 1 (by decide) lk_X7_getFromRow_69 (v := .int xa) rfl dX7_getFromRow_62 ?_
        refine lv_aload_n hx hb dX7_getFromRow_65 rfl (lv_at hl 1 rfl) ?_
        refine lv_iload hx hb dX7_getFromRow_66 (lv_at hl 0 rfl) ?_
        have hkd : sA κ 4 (aN ((sA κ 3 (aN xb)) - 1)) ≤ 5 := kd5 c_18
        refine r_kl hw (r_runV (rest := [.int xa, .ref (ad 2)]) hC hw (100 + 4 * (aN ((sA κ 3 (aN xb)) - 1))) (c_X6_getNumber (x1 := .null) l _ _ (100 + 4 * (aN ((sA κ 3 (aN xb)) - 1))) (101 + 4 * (aN ((sA κ 3 (aN xb)) - 1))) (sA κ 2 (aN xc)) hl_b hc_b (thl1 hB_b.2) (thc1 h6_b)) rk6 hl_b hc_b 1 gX7_getFromRow_X6_getNumber rfl rfl rfl (by decide +kernel) ⟨Nat.le_of_ble_eq_true rfl, Nat.le_of_ble_eq_true rfl⟩ rfl hl.1 rfl (Nat.le_of_ble_eq_true rfl) dX7_getFromRow_68 ⟨Nat.le_of_ble_eq_true rfl, Nat.le_of_ble_eq_true rfl⟩) (fun r_25 u_26 H locs h_24 hw => ?_)
        rw [getNum hkd hix.2.2 hix.2.1, ← hix.1] at h_24
        subst h_24
        refine lv_l2i (v := (sJ κ 1 (aN ((12 * ((sA κ 3 (aN xb)) - 1)) + (sA κ 2 (aN xc))))).toInt32) hx hb dX7_getFromRow_71 rfl ?_
        refine r_kv hw (r_runV (rest := []) hC hw 2 (c_X3_setWord l _ _ 2 8 xa ((sJ κ 1 (aN ((12 * ((sA κ 3 (aN xb)) - 1)) + (sA κ 2 (aN xc))))).toInt32) (by assumption) (wXl 2 (by decide)) wXc2 (wXl 8 (by decide)) wXc8) rk3 (wXl 2 (by decide)) wXc2 2 gX7_getFromRow_X3_setWord rfl rfl rfl (by decide +kernel) ⟨Nat.le_of_ble_eq_true rfl, Nat.le_of_ble_eq_true rfl⟩ rfl hl.1 rfl (Nat.le_of_ble_eq_true rfl) dX7_getFromRow_72 ⟨Nat.le_of_ble_eq_true rfl, Nat.le_of_ble_eq_true rfl⟩) (fun u_29 H locs h_27 hw => ?_)
        replace hw := xS_words hw
        refine lv_goto (tgt := 173) hx hb dX7_getFromRow_75 (by decide) ?_
        refine lv_iconst (v := 0) hx hb dX7_getFromRow_173 (by decide) ?_
        exact r_iret hC hr hlk hw (uA κ 2 (aN xa) ((sJ κ 1 (aN ((12 * ((sA κ 3 (aN xb)) - 1)) + (sA κ 2 (aN xc))))).toInt32)) rfl (doR0 (κ := κ) (hd := hd) (th := th) (k := 42) (a := xa) (b := xb) (c := xc) ((if_neg w_19).trans ((if_neg n_4).trans (if_pos c_23)))).symm (Nat.le_of_ble_eq_true rfl) (Nat.le_of_ble_eq_true rfl) dX7_getFromRow_174
      · rw [if_neg c_23] at h_20
        subst h_20
        refine lv_if_ne (tgt := 52) hx hb dX7_getFromRow_47 (by decide) (fun c_ => absurd (by decide) c_) (fun _ => ?_)
        refine lv_iconst (v := 2) hx hb dX7_getFromRow_50 (by decide) ?_
        exact r_iret hC hr hlk hw κ rfl (doRf (κ := κ) (hd := hd) (th := th) (k := 42) (a := xa) (b := xb) (c := xc) ((if_neg w_19).trans ((if_neg n_4).trans (if_neg c_23))) (by decide)).symm (Nat.le_of_ble_eq_true rfl) (Nat.le_of_ble_eq_true rfl) dX7_getFromRow_51
    · rw [if_neg c_18] at h_15
      subst h_15
      have w_30 : pWrong κ (sA κ 3 (aN xb)) 3 := ⟨n_4, c_18⟩
      refine lv_if_eq (tgt := 35) hx hb dX7_getFromRow_30 (by decide) (fun c_ => absurd c_ (by decide)) (fun _ => ?_)
      refine lv_iconst (v := 4) hx hb dX7_getFromRow_33 (by decide) ?_
      exact r_iret hC hr hlk hw κ rfl (doRf (κ := κ) (hd := hd) (th := th) (k := 42) (a := xa) (b := xb) (c := xc) (if_pos w_30) (by decide)).symm (Nat.le_of_ble_eq_true rfl) (Nat.le_of_ble_eq_true rfl) dX7_getFromRow_34

set_option maxHeartbeats 4000000 in
set_option maxRecDepth 100000 in
theorem c_X7_getFromRow_43 (l : Launch) {D : va_G} {q : Nat → ClassId} {ad : Nat → Nat} {κ : KS} {τ : TAU} (sz : Nat) (ρ : Nat) (xa xb xc hd th : Int32) (hst : stepAt q ad κ τ ρ 43 xa xb xc) (hs : okStep 43 xa xb xc)(hX : WFx κ) (hN : nnOp κ 43 xa xb xc) : Met l yX7_getFromRow wsX7_getFromRow (rmz 2 42) (va_Pc [.ref (ad 5), .ref (ad ρ), .int 4] (rPre D q (wX q ad κ τ) sz)) (va_Qi (fun (r : Int32) (u : KS) => (r, u) = doR κ hd th 43 xa xb xc) (fun (u : KS) tt => rPo D (rA (wX q ad κ τ) sz) (wX q ad u τ) tt) (rA (wX q ad κ τ) sz)) 0 0 (rA (wX q ad κ τ) sz) := by
  have hi0 : vp_in xa 8 := hs.1
  have hi1 : vp_in xb 8 := hs.2.1
  have hi2 : vp_in xc 8 := hs.2.2
  refine r_start (cc := cX7_getFromRow) (maxL := 5) (ret := (some .int)) (by decide) rfl (Nat.le_of_ble_eq_true rfl) ?_
  intro p e s m below meth c ls hC hr hlk hnm hsz hw hl
  have hx := hC.1
  have hb := hC.2.1
  have hl : lv_has ls 5 [(0, .ref (ad 5)), (1, .ref (ad ρ)), (2, .int 4)] := hl
  refine lv_aload_n hx hb dX7_getFromRow_0 rfl (lv_at hl 0 rfl) ?_
  refine r_get hC hw rk7 in_X7_getFromRow_7 5 (wXl 5 (by decide)) wXc5 0 (by decide) lk_X7_getFromRow_9 (v := .ref (ad 2)) rfl dX7_getFromRow_1 ?_
  refine lv_aload_n hx hb dX7_getFromRow_4 rfl (lv_at hl 1 rfl) ?_
  refine r_get hC hw rk5 in_X7_getFromRow_5 ρ hst.1 hst.2 2 (by decide) lk_X7_getFromRow_74 (v := .int xb) rfl dX7_getFromRow_5 ?_
  refine r_kq hw (r_runV (rest := []) hC hw 2 (c_X3_getThing l _ _ 2 12 xb (wXl 2 (by decide)) wXc2 (wXl 12 (by decide)) wXc12) rk3 (wXl 2 (by decide)) wXc2 1 gX7_getFromRow_X3_getThing rfl rfl rfl (by decide +kernel) ⟨Nat.le_of_ble_eq_true rfl, Nat.le_of_ble_eq_true rfl⟩ rfl hl.1 rfl (Nat.le_of_ble_eq_true rfl) dX7_getFromRow_8 ⟨Nat.le_of_ble_eq_true rfl, Nat.le_of_ble_eq_true rfl⟩) (fun r_2 u_3 H locs h_1 hw => ?_)
  subst h_1
  by_cases n_4 : (sA κ 3 (aN xb)) = 0
  · refine r_topv (y := .null) (by rw [gN_in (by assumption) (by decide)]; show va_rf ((rT (sA κ 3 (aN xb))).map ad) = _; rw [rT0 n_4]; rfl) ?_
    refine lv_astore_nN (lv' := [(3, .null), (0, .ref (ad 5)), (1, .ref (ad ρ)), (2, .int 4)]) hx hb dX7_getFromRow_11 rfl hl (by decide) rfl (fun ls hl => ?_)
    refine lv_aload_n hx hb dX7_getFromRow_12 rfl (lv_at hl 1 rfl) ?_
    refine r_get hC hw rk7 in_X7_getFromRow_7 5 (wXl 5 (by decide)) wXc5 0 (by decide) lk_X7_getFromRow_9 (v := .ref (ad 2)) rfl dX7_getFromRow_13 ?_
    refine lv_aload_n hx hb dX7_getFromRow_16 rfl (lv_at hl 2 rfl) ?_
    refine r_get hC hw rk5 in_X7_getFromRow_5 ρ hst.1 hst.2 3 (by decide) lk_X7_getFromRow_57 (v := .int xc) rfl dX7_getFromRow_17 ?_
    refine r_ki hw (r_runV (rest := []) hC hw 2 (c_X3_getWord l _ _ 2 8 xc (wXl 2 (by decide)) wXc2 (wXl 8 (by decide)) wXc8) rk3 (wXl 2 (by decide)) wXc2 1 gX7_getFromRow_X3_getWord rfl rfl rfl (by decide +kernel) ⟨Nat.le_of_ble_eq_true rfl, Nat.le_of_ble_eq_true rfl⟩ rfl hl.1 rfl (Nat.le_of_ble_eq_true rfl) dX7_getFromRow_20 ⟨Nat.le_of_ble_eq_true rfl, Nat.le_of_ble_eq_true rfl⟩) (fun r_6 u_7 H locs h_5 hw => ?_)
    subst h_5
    refine r_topv (y := .int (sA κ 2 (aN xc))) (congrArg _ (gN_in (by assumption) (by decide))) ?_
    refine lv_istore (lv' := [(4, .int (sA κ 2 (aN xc))), (3, .null), (0, .ref (ad 5)), (1, .ref (ad ρ)), (2, .int 4)]) hx hb dX7_getFromRow_23 hl (by decide) rfl (fun ls hl => ?_)
    refine lv_aload_nN hx hb dX7_getFromRow_25 rfl (lv_at hl 1 rfl) ?_
    refine lv_iload_n hx hb dX7_getFromRow_26 rfl (lv_at hl 4 rfl) ?_
    refine r_ki hw (r_runSN (rest := []) hC hw hw.1.2.1 lks_X7_getFromRow lkz_X7_getFromRow_94 (c_X8_misfitsN_4 l _ _) 2 gX7_getFromRow_X8_misfits_n94 rfl rfl rfl (by decide +kernel) ⟨Nat.le_of_ble_eq_true rfl, Nat.le_of_ble_eq_true rfl⟩ rfl hl.1 rfl (Nat.le_of_ble_eq_true rfl) dX7_getFromRow_27 ⟨Nat.le_of_ble_eq_true rfl, Nat.le_of_ble_eq_true rfl⟩) (fun r_9 u_10 H locs h_8 hw => ?_)
    subst h_8
    have w_11 : ¬ pWrong κ (sA κ 3 (aN xb)) 4 := fun h => h.1 n_4
    refine lv_if_eq (tgt := 35) hx hb dX7_getFromRow_30 (by decide) (fun _ => ?_) (fun c_ => absurd (by decide) c_)
    refine lv_aload_nN hx hb dX7_getFromRow_35 rfl (lv_at hl 1 rfl) ?_
    refine lv_ifnonnullN hx hb dX7_getFromRow_36 ?_
    refine lv_iconst (v := 1) hx hb dX7_getFromRow_39 (by decide) ?_
    exact r_iret hC hr hlk hw κ rfl (doRf (κ := κ) (hd := hd) (th := th) (k := 43) (a := xa) (b := xb) (c := xc) ((if_neg w_11).trans (if_pos n_4)) (by decide)).symm (Nat.le_of_ble_eq_true rfl) (Nat.le_of_ble_eq_true rfl) dX7_getFromRow_40
  · refine r_topv (y := .ref (ad (100 + 4 * (aN ((sA κ 3 (aN xb)) - 1))))) (by rw [gN_in (by assumption) (by decide)]; show va_rf ((rT (sA κ 3 (aN xb))).map ad) = _; rw [rT1 n_4]; rfl) ?_
    have hB_b := hX.2.1 xb (by assumption) n_4
    have h6_b : (aN ((sA κ 3 (aN xb)) - 1)) < 60 := Nat.lt_of_lt_of_le hB_b.2 hX.1
    have hl_b : (wX q ad κ τ).2.1 (100 + 4 * (aN ((sA κ 3 (aN xb)) - 1))) := thl hB_b.2
    have hc_b : (wX q ad κ τ).2.2 (100 + 4 * (aN ((sA κ 3 (aN xb)) - 1))) = .inr (6, fsT ad κ (aN ((sA κ 3 (aN xb)) - 1))) := thc h6_b
    have hk_b := hX.2.2.1 _ hB_b.2
    refine lv_astore_n (lv' := [(3, .ref (ad (100 + 4 * (aN ((sA κ 3 (aN xb)) - 1))))), (0, .ref (ad 5)), (1, .ref (ad ρ)), (2, .int 4)]) hx hb dX7_getFromRow_11 rfl hl (by decide) rfl (fun ls hl => ?_)
    refine lv_aload_n hx hb dX7_getFromRow_12 rfl (lv_at hl 1 rfl) ?_
    refine r_get hC hw rk7 in_X7_getFromRow_7 5 (wXl 5 (by decide)) wXc5 0 (by decide) lk_X7_getFromRow_9 (v := .ref (ad 2)) rfl dX7_getFromRow_13 ?_
    refine lv_aload_n hx hb dX7_getFromRow_16 rfl (lv_at hl 2 rfl) ?_
    refine r_get hC hw rk5 in_X7_getFromRow_5 ρ hst.1 hst.2 3 (by decide) lk_X7_getFromRow_57 (v := .int xc) rfl dX7_getFromRow_17 ?_
    refine r_ki hw (r_runV (rest := []) hC hw 2 (c_X3_getWord l _ _ 2 8 xc (wXl 2 (by decide)) wXc2 (wXl 8 (by decide)) wXc8) rk3 (wXl 2 (by decide)) wXc2 1 gX7_getFromRow_X3_getWord rfl rfl rfl (by decide +kernel) ⟨Nat.le_of_ble_eq_true rfl, Nat.le_of_ble_eq_true rfl⟩ rfl hl.1 rfl (Nat.le_of_ble_eq_true rfl) dX7_getFromRow_20 ⟨Nat.le_of_ble_eq_true rfl, Nat.le_of_ble_eq_true rfl⟩) (fun r_13 u_14 H locs h_12 hw => ?_)
    subst h_12
    refine r_topv (y := .int (sA κ 2 (aN xc))) (congrArg _ (gN_in (by assumption) (by decide))) ?_
    refine lv_istore (lv' := [(4, .int (sA κ 2 (aN xc))), (3, .ref (ad (100 + 4 * (aN ((sA κ 3 (aN xb)) - 1))))), (0, .ref (ad 5)), (1, .ref (ad ρ)), (2, .int 4)]) hx hb dX7_getFromRow_23 hl (by decide) rfl (fun ls hl => ?_)
    refine lv_aload_n hx hb dX7_getFromRow_25 rfl (lv_at hl 1 rfl) ?_
    refine lv_iload_n hx hb dX7_getFromRow_26 rfl (lv_at hl 4 rfl) ?_
    refine r_ki hw (r_runSN (rest := []) hC hw hw.1.2.1 lks_X7_getFromRow lkz_X7_getFromRow_94 (c_X8_misfits_4 l _ _ (100 + 4 * (aN ((sA κ 3 (aN xb)) - 1))) hk_b.1 hl_b hc_b) 2 gX7_getFromRow_X8_misfits_n94 rfl rfl rfl (by decide +kernel) ⟨Nat.le_of_ble_eq_true rfl, Nat.le_of_ble_eq_true rfl⟩ rfl hl.1 rfl (Nat.le_of_ble_eq_true rfl) dX7_getFromRow_27 ⟨Nat.le_of_ble_eq_true rfl, Nat.le_of_ble_eq_true rfl⟩) (fun r_16 u_17 H locs h_15 hw => ?_)
    by_cases c_18 : pOf (sA κ 4 (aN ((sA κ 3 (aN xb)) - 1))) 4
    · rw [if_pos c_18] at h_15
      subst h_15
      have w_19 : ¬ pWrong κ (sA κ 3 (aN xb)) 4 := fun h => h.2 c_18
      refine lv_if_eq (tgt := 35) hx hb dX7_getFromRow_30 (by decide) (fun _ => ?_) (fun c_ => absurd (by decide) c_)
      refine lv_aload_n hx hb dX7_getFromRow_35 rfl (lv_at hl 1 rfl) ?_
      refine lv_ifnonnull (tgt := 41) hx hb dX7_getFromRow_36 (by decide) ?_
      refine lv_aload_n hx hb dX7_getFromRow_41 rfl (lv_at hl 1 rfl) ?_
      refine lv_iload hx hb dX7_getFromRow_42 (lv_at hl 0 rfl) ?_
      refine r_ki hw (r_runV (rest := []) hC hw (100 + 4 * (aN ((sA κ 3 (aN xb)) - 1))) (c_X6_hasPlace l _ _ (100 + 4 * (aN ((sA κ 3 (aN xb)) - 1))) (sA κ 2 (aN xc)) hl_b hc_b) rk6 hl_b hc_b 1 gX7_getFromRow_X6_hasPlace rfl rfl rfl (by decide +kernel) ⟨Nat.le_of_ble_eq_true rfl, Nat.le_of_ble_eq_true rfl⟩ rfl hl.1 rfl (Nat.le_of_ble_eq_true rfl) dX7_getFromRow_44 ⟨Nat.le_of_ble_eq_true rfl, Nat.le_of_ble_eq_true rfl⟩) (fun r_21 u_22 H locs h_20 hw => ?_)
      rw [hp_eq hk_b.2] at h_20
      by_cases c_23 : pIn (sA κ 2 (aN xc)) 0 ((sA κ 5 (aN ((sA κ 3 (aN xb)) - 1))) - 1)
      · rw [if_pos c_23] at h_20
        subst h_20
        have hix := ixN hB_b.1 c_23 hk_b.2
        refine lv_if_ne (tgt := 52) hx hb dX7_getFromRow_47 (by decide) (fun _ => ?_) (fun c_ => absurd c_ (by decide))
        refine lv_iload_n hx hb dX7_getFromRow_52 rfl (lv_at hl 4 rfl) ?_
        refine lv_iconst (v := 4) hx hb dX7_getFromRow_53 (by decide) ?_
        refine lv_icmp_gt (tgt := 78) hx hb dX7_getFromRow_54 (by decide) (fun c_ => absurd c_ (by decide)) (fun _ => ?_)
        refine lv_aload_n hx hb dX7_getFromRow_57 rfl (lv_at hl 2 rfl) ?_
        refine r_get hC hw rk7 in_X7_getFromRow_7 5 (wXl 5 (by decide)) wXc5 0 (by decide) lk_X7_getFromRow_9 (v := .ref (ad 2)) rfl dX7_getFromRow_58 ?_
        refine lv_aload_n hx hb dX7_getFromRow_61 rfl (lv_at hl 3 rfl) ?_
        refine r_get hC hw rk5 in_X7_getFromRow_5 ρ hst.1 hst.2 1 (by decide) lk_X7_getFromRow_69 (v := .int xa) rfl dX7_getFromRow_62 ?_
        refine lv_aload_n hx hb dX7_getFromRow_65 rfl (lv_at hl 1 rfl) ?_
        refine lv_iload hx hb dX7_getFromRow_66 (lv_at hl 0 rfl) ?_
        have hkd : sA κ 4 (aN ((sA κ 3 (aN xb)) - 1)) ≤ 5 := kd5 c_18
        refine r_kl hw (r_runV (rest := [.int xa, .ref (ad 2)]) hC hw (100 + 4 * (aN ((sA κ 3 (aN xb)) - 1))) (c_X6_getNumber (x1 := .null) l _ _ (100 + 4 * (aN ((sA κ 3 (aN xb)) - 1))) (101 + 4 * (aN ((sA κ 3 (aN xb)) - 1))) (sA κ 2 (aN xc)) hl_b hc_b (thl1 hB_b.2) (thc1 h6_b)) rk6 hl_b hc_b 1 gX7_getFromRow_X6_getNumber rfl rfl rfl (by decide +kernel) ⟨Nat.le_of_ble_eq_true rfl, Nat.le_of_ble_eq_true rfl⟩ rfl hl.1 rfl (Nat.le_of_ble_eq_true rfl) dX7_getFromRow_68 ⟨Nat.le_of_ble_eq_true rfl, Nat.le_of_ble_eq_true rfl⟩) (fun r_25 u_26 H locs h_24 hw => ?_)
        rw [getNum hkd hix.2.2 hix.2.1, ← hix.1] at h_24
        subst h_24
        refine lv_l2i (v := (sJ κ 1 (aN ((12 * ((sA κ 3 (aN xb)) - 1)) + (sA κ 2 (aN xc))))).toInt32) hx hb dX7_getFromRow_71 rfl ?_
        refine r_kv hw (r_runV (rest := []) hC hw 2 (c_X3_setWord l _ _ 2 8 xa ((sJ κ 1 (aN ((12 * ((sA κ 3 (aN xb)) - 1)) + (sA κ 2 (aN xc))))).toInt32) (by assumption) (wXl 2 (by decide)) wXc2 (wXl 8 (by decide)) wXc8) rk3 (wXl 2 (by decide)) wXc2 2 gX7_getFromRow_X3_setWord rfl rfl rfl (by decide +kernel) ⟨Nat.le_of_ble_eq_true rfl, Nat.le_of_ble_eq_true rfl⟩ rfl hl.1 rfl (Nat.le_of_ble_eq_true rfl) dX7_getFromRow_72 ⟨Nat.le_of_ble_eq_true rfl, Nat.le_of_ble_eq_true rfl⟩) (fun u_29 H locs h_27 hw => ?_)
        replace hw := xS_words hw
        refine lv_goto (tgt := 173) hx hb dX7_getFromRow_75 (by decide) ?_
        refine lv_iconst (v := 0) hx hb dX7_getFromRow_173 (by decide) ?_
        exact r_iret hC hr hlk hw (uA κ 2 (aN xa) ((sJ κ 1 (aN ((12 * ((sA κ 3 (aN xb)) - 1)) + (sA κ 2 (aN xc))))).toInt32)) rfl (doR0 (κ := κ) (hd := hd) (th := th) (k := 43) (a := xa) (b := xb) (c := xc) ((if_neg w_19).trans ((if_neg n_4).trans (if_pos c_23)))).symm (Nat.le_of_ble_eq_true rfl) (Nat.le_of_ble_eq_true rfl) dX7_getFromRow_174
      · rw [if_neg c_23] at h_20
        subst h_20
        refine lv_if_ne (tgt := 52) hx hb dX7_getFromRow_47 (by decide) (fun c_ => absurd (by decide) c_) (fun _ => ?_)
        refine lv_iconst (v := 2) hx hb dX7_getFromRow_50 (by decide) ?_
        exact r_iret hC hr hlk hw κ rfl (doRf (κ := κ) (hd := hd) (th := th) (k := 43) (a := xa) (b := xb) (c := xc) ((if_neg w_19).trans ((if_neg n_4).trans (if_neg c_23))) (by decide)).symm (Nat.le_of_ble_eq_true rfl) (Nat.le_of_ble_eq_true rfl) dX7_getFromRow_51
    · rw [if_neg c_18] at h_15
      subst h_15
      have w_30 : pWrong κ (sA κ 3 (aN xb)) 4 := ⟨n_4, c_18⟩
      refine lv_if_eq (tgt := 35) hx hb dX7_getFromRow_30 (by decide) (fun c_ => absurd c_ (by decide)) (fun _ => ?_)
      refine lv_iconst (v := 4) hx hb dX7_getFromRow_33 (by decide) ?_
      exact r_iret hC hr hlk hw κ rfl (doRf (κ := κ) (hd := hd) (th := th) (k := 43) (a := xa) (b := xb) (c := xc) (if_pos w_30) (by decide)).symm (Nat.le_of_ble_eq_true rfl) (Nat.le_of_ble_eq_true rfl) dX7_getFromRow_34

set_option maxHeartbeats 4000000 in
set_option maxRecDepth 100000 in
theorem c_X7_getFromRow_44 (l : Launch) {D : va_G} {q : Nat → ClassId} {ad : Nat → Nat} {κ : KS} {τ : TAU} (sz : Nat) (ρ : Nat) (xa xb xc hd th : Int32) (hst : stepAt q ad κ τ ρ 44 xa xb xc) (hs : okStep 44 xa xb xc)(hX : WFx κ) (hN : nnOp κ 44 xa xb xc) : Met l yX7_getFromRow wsX7_getFromRow (rmz 2 42) (va_Pc [.ref (ad 5), .ref (ad ρ), .int 5] (rPre D q (wX q ad κ τ) sz)) (va_Qi (fun (r : Int32) (u : KS) => (r, u) = doR κ hd th 44 xa xb xc) (fun (u : KS) tt => rPo D (rA (wX q ad κ τ) sz) (wX q ad u τ) tt) (rA (wX q ad κ τ) sz)) 0 0 (rA (wX q ad κ τ) sz) := by
  have hi0 : vp_in xa 4 := hs.1
  have hi1 : vp_in xb 8 := hs.2.1
  have hi2 : vp_in xc 8 := hs.2.2
  refine r_start (cc := cX7_getFromRow) (maxL := 5) (ret := (some .int)) (by decide) rfl (Nat.le_of_ble_eq_true rfl) ?_
  intro p e s m below meth c ls hC hr hlk hnm hsz hw hl
  have hx := hC.1
  have hb := hC.2.1
  have hl : lv_has ls 5 [(0, .ref (ad 5)), (1, .ref (ad ρ)), (2, .int 5)] := hl
  refine lv_aload_n hx hb dX7_getFromRow_0 rfl (lv_at hl 0 rfl) ?_
  refine r_get hC hw rk7 in_X7_getFromRow_7 5 (wXl 5 (by decide)) wXc5 0 (by decide) lk_X7_getFromRow_9 (v := .ref (ad 2)) rfl dX7_getFromRow_1 ?_
  refine lv_aload_n hx hb dX7_getFromRow_4 rfl (lv_at hl 1 rfl) ?_
  refine r_get hC hw rk5 in_X7_getFromRow_5 ρ hst.1 hst.2 2 (by decide) lk_X7_getFromRow_74 (v := .int xb) rfl dX7_getFromRow_5 ?_
  refine r_kq hw (r_runV (rest := []) hC hw 2 (c_X3_getThing l _ _ 2 12 xb (wXl 2 (by decide)) wXc2 (wXl 12 (by decide)) wXc12) rk3 (wXl 2 (by decide)) wXc2 1 gX7_getFromRow_X3_getThing rfl rfl rfl (by decide +kernel) ⟨Nat.le_of_ble_eq_true rfl, Nat.le_of_ble_eq_true rfl⟩ rfl hl.1 rfl (Nat.le_of_ble_eq_true rfl) dX7_getFromRow_8 ⟨Nat.le_of_ble_eq_true rfl, Nat.le_of_ble_eq_true rfl⟩) (fun r_2 u_3 H locs h_1 hw => ?_)
  subst h_1
  by_cases n_4 : (sA κ 3 (aN xb)) = 0
  · refine r_topv (y := .null) (by rw [gN_in (by assumption) (by decide)]; show va_rf ((rT (sA κ 3 (aN xb))).map ad) = _; rw [rT0 n_4]; rfl) ?_
    refine lv_astore_nN (lv' := [(3, .null), (0, .ref (ad 5)), (1, .ref (ad ρ)), (2, .int 5)]) hx hb dX7_getFromRow_11 rfl hl (by decide) rfl (fun ls hl => ?_)
    refine lv_aload_n hx hb dX7_getFromRow_12 rfl (lv_at hl 1 rfl) ?_
    refine r_get hC hw rk7 in_X7_getFromRow_7 5 (wXl 5 (by decide)) wXc5 0 (by decide) lk_X7_getFromRow_9 (v := .ref (ad 2)) rfl dX7_getFromRow_13 ?_
    refine lv_aload_n hx hb dX7_getFromRow_16 rfl (lv_at hl 2 rfl) ?_
    refine r_get hC hw rk5 in_X7_getFromRow_5 ρ hst.1 hst.2 3 (by decide) lk_X7_getFromRow_57 (v := .int xc) rfl dX7_getFromRow_17 ?_
    refine r_ki hw (r_runV (rest := []) hC hw 2 (c_X3_getWord l _ _ 2 8 xc (wXl 2 (by decide)) wXc2 (wXl 8 (by decide)) wXc8) rk3 (wXl 2 (by decide)) wXc2 1 gX7_getFromRow_X3_getWord rfl rfl rfl (by decide +kernel) ⟨Nat.le_of_ble_eq_true rfl, Nat.le_of_ble_eq_true rfl⟩ rfl hl.1 rfl (Nat.le_of_ble_eq_true rfl) dX7_getFromRow_20 ⟨Nat.le_of_ble_eq_true rfl, Nat.le_of_ble_eq_true rfl⟩) (fun r_6 u_7 H locs h_5 hw => ?_)
    subst h_5
    refine r_topv (y := .int (sA κ 2 (aN xc))) (congrArg _ (gN_in (by assumption) (by decide))) ?_
    refine lv_istore (lv' := [(4, .int (sA κ 2 (aN xc))), (3, .null), (0, .ref (ad 5)), (1, .ref (ad ρ)), (2, .int 5)]) hx hb dX7_getFromRow_23 hl (by decide) rfl (fun ls hl => ?_)
    refine lv_aload_nN hx hb dX7_getFromRow_25 rfl (lv_at hl 1 rfl) ?_
    refine lv_iload_n hx hb dX7_getFromRow_26 rfl (lv_at hl 4 rfl) ?_
    refine r_ki hw (r_runSN (rest := []) hC hw hw.1.2.1 lks_X7_getFromRow lkz_X7_getFromRow_94 (c_X8_misfitsN_5 l _ _) 2 gX7_getFromRow_X8_misfits_n94 rfl rfl rfl (by decide +kernel) ⟨Nat.le_of_ble_eq_true rfl, Nat.le_of_ble_eq_true rfl⟩ rfl hl.1 rfl (Nat.le_of_ble_eq_true rfl) dX7_getFromRow_27 ⟨Nat.le_of_ble_eq_true rfl, Nat.le_of_ble_eq_true rfl⟩) (fun r_9 u_10 H locs h_8 hw => ?_)
    subst h_8
    have w_11 : ¬ pWrong κ (sA κ 3 (aN xb)) 5 := fun h => h.1 n_4
    refine lv_if_eq (tgt := 35) hx hb dX7_getFromRow_30 (by decide) (fun _ => ?_) (fun c_ => absurd (by decide) c_)
    refine lv_aload_nN hx hb dX7_getFromRow_35 rfl (lv_at hl 1 rfl) ?_
    refine lv_ifnonnullN hx hb dX7_getFromRow_36 ?_
    refine lv_iconst (v := 1) hx hb dX7_getFromRow_39 (by decide) ?_
    exact r_iret hC hr hlk hw κ rfl (doRf (κ := κ) (hd := hd) (th := th) (k := 44) (a := xa) (b := xb) (c := xc) ((if_neg w_11).trans (if_pos n_4)) (by decide)).symm (Nat.le_of_ble_eq_true rfl) (Nat.le_of_ble_eq_true rfl) dX7_getFromRow_40
  · refine r_topv (y := .ref (ad (100 + 4 * (aN ((sA κ 3 (aN xb)) - 1))))) (by rw [gN_in (by assumption) (by decide)]; show va_rf ((rT (sA κ 3 (aN xb))).map ad) = _; rw [rT1 n_4]; rfl) ?_
    have hB_b := hX.2.1 xb (by assumption) n_4
    have h6_b : (aN ((sA κ 3 (aN xb)) - 1)) < 60 := Nat.lt_of_lt_of_le hB_b.2 hX.1
    have hl_b : (wX q ad κ τ).2.1 (100 + 4 * (aN ((sA κ 3 (aN xb)) - 1))) := thl hB_b.2
    have hc_b : (wX q ad κ τ).2.2 (100 + 4 * (aN ((sA κ 3 (aN xb)) - 1))) = .inr (6, fsT ad κ (aN ((sA κ 3 (aN xb)) - 1))) := thc h6_b
    have hk_b := hX.2.2.1 _ hB_b.2
    refine lv_astore_n (lv' := [(3, .ref (ad (100 + 4 * (aN ((sA κ 3 (aN xb)) - 1))))), (0, .ref (ad 5)), (1, .ref (ad ρ)), (2, .int 5)]) hx hb dX7_getFromRow_11 rfl hl (by decide) rfl (fun ls hl => ?_)
    refine lv_aload_n hx hb dX7_getFromRow_12 rfl (lv_at hl 1 rfl) ?_
    refine r_get hC hw rk7 in_X7_getFromRow_7 5 (wXl 5 (by decide)) wXc5 0 (by decide) lk_X7_getFromRow_9 (v := .ref (ad 2)) rfl dX7_getFromRow_13 ?_
    refine lv_aload_n hx hb dX7_getFromRow_16 rfl (lv_at hl 2 rfl) ?_
    refine r_get hC hw rk5 in_X7_getFromRow_5 ρ hst.1 hst.2 3 (by decide) lk_X7_getFromRow_57 (v := .int xc) rfl dX7_getFromRow_17 ?_
    refine r_ki hw (r_runV (rest := []) hC hw 2 (c_X3_getWord l _ _ 2 8 xc (wXl 2 (by decide)) wXc2 (wXl 8 (by decide)) wXc8) rk3 (wXl 2 (by decide)) wXc2 1 gX7_getFromRow_X3_getWord rfl rfl rfl (by decide +kernel) ⟨Nat.le_of_ble_eq_true rfl, Nat.le_of_ble_eq_true rfl⟩ rfl hl.1 rfl (Nat.le_of_ble_eq_true rfl) dX7_getFromRow_20 ⟨Nat.le_of_ble_eq_true rfl, Nat.le_of_ble_eq_true rfl⟩) (fun r_13 u_14 H locs h_12 hw => ?_)
    subst h_12
    refine r_topv (y := .int (sA κ 2 (aN xc))) (congrArg _ (gN_in (by assumption) (by decide))) ?_
    refine lv_istore (lv' := [(4, .int (sA κ 2 (aN xc))), (3, .ref (ad (100 + 4 * (aN ((sA κ 3 (aN xb)) - 1))))), (0, .ref (ad 5)), (1, .ref (ad ρ)), (2, .int 5)]) hx hb dX7_getFromRow_23 hl (by decide) rfl (fun ls hl => ?_)
    refine lv_aload_n hx hb dX7_getFromRow_25 rfl (lv_at hl 1 rfl) ?_
    refine lv_iload_n hx hb dX7_getFromRow_26 rfl (lv_at hl 4 rfl) ?_
    refine r_ki hw (r_runSN (rest := []) hC hw hw.1.2.1 lks_X7_getFromRow lkz_X7_getFromRow_94 (c_X8_misfits_5 l _ _ (100 + 4 * (aN ((sA κ 3 (aN xb)) - 1))) hk_b.1 hl_b hc_b) 2 gX7_getFromRow_X8_misfits_n94 rfl rfl rfl (by decide +kernel) ⟨Nat.le_of_ble_eq_true rfl, Nat.le_of_ble_eq_true rfl⟩ rfl hl.1 rfl (Nat.le_of_ble_eq_true rfl) dX7_getFromRow_27 ⟨Nat.le_of_ble_eq_true rfl, Nat.le_of_ble_eq_true rfl⟩) (fun r_16 u_17 H locs h_15 hw => ?_)
    by_cases c_18 : pOf (sA κ 4 (aN ((sA κ 3 (aN xb)) - 1))) 5
    · rw [if_pos c_18] at h_15
      subst h_15
      have w_19 : ¬ pWrong κ (sA κ 3 (aN xb)) 5 := fun h => h.2 c_18
      refine lv_if_eq (tgt := 35) hx hb dX7_getFromRow_30 (by decide) (fun _ => ?_) (fun c_ => absurd (by decide) c_)
      refine lv_aload_n hx hb dX7_getFromRow_35 rfl (lv_at hl 1 rfl) ?_
      refine lv_ifnonnull (tgt := 41) hx hb dX7_getFromRow_36 (by decide) ?_
      refine lv_aload_n hx hb dX7_getFromRow_41 rfl (lv_at hl 1 rfl) ?_
      refine lv_iload hx hb dX7_getFromRow_42 (lv_at hl 0 rfl) ?_
      refine r_ki hw (r_runV (rest := []) hC hw (100 + 4 * (aN ((sA κ 3 (aN xb)) - 1))) (c_X6_hasPlace l _ _ (100 + 4 * (aN ((sA κ 3 (aN xb)) - 1))) (sA κ 2 (aN xc)) hl_b hc_b) rk6 hl_b hc_b 1 gX7_getFromRow_X6_hasPlace rfl rfl rfl (by decide +kernel) ⟨Nat.le_of_ble_eq_true rfl, Nat.le_of_ble_eq_true rfl⟩ rfl hl.1 rfl (Nat.le_of_ble_eq_true rfl) dX7_getFromRow_44 ⟨Nat.le_of_ble_eq_true rfl, Nat.le_of_ble_eq_true rfl⟩) (fun r_21 u_22 H locs h_20 hw => ?_)
      rw [hp_eq hk_b.2] at h_20
      by_cases c_23 : pIn (sA κ 2 (aN xc)) 0 ((sA κ 5 (aN ((sA κ 3 (aN xb)) - 1))) - 1)
      · rw [if_pos c_23] at h_20
        subst h_20
        have hix := ixN hB_b.1 c_23 hk_b.2
        refine lv_if_ne (tgt := 52) hx hb dX7_getFromRow_47 (by decide) (fun _ => ?_) (fun c_ => absurd c_ (by decide))
        refine lv_iload_n hx hb dX7_getFromRow_52 rfl (lv_at hl 4 rfl) ?_
        refine lv_iconst (v := 4) hx hb dX7_getFromRow_53 (by decide) ?_
        refine lv_icmp_gt (tgt := 78) hx hb dX7_getFromRow_54 (by decide) (fun _ => ?_) (fun c_ => absurd (by decide) c_)
        refine lv_iload_n hx hb dX7_getFromRow_78 rfl (lv_at hl 4 rfl) ?_
        refine lv_iconst (v := 5) hx hb dX7_getFromRow_79 (by decide) ?_
        refine lv_icmp_ne (tgt := 103) hx hb dX7_getFromRow_80 (by decide) (fun c_ => absurd (by decide) c_) (fun _ => ?_)
        refine lv_aload_n hx hb dX7_getFromRow_83 rfl (lv_at hl 2 rfl) ?_
        refine r_get hC hw rk7 in_X7_getFromRow_7 5 (wXl 5 (by decide)) wXc5 0 (by decide) lk_X7_getFromRow_9 (v := .ref (ad 2)) rfl dX7_getFromRow_84 ?_
        refine lv_aload_n hx hb dX7_getFromRow_87 rfl (lv_at hl 3 rfl) ?_
        refine r_get hC hw rk5 in_X7_getFromRow_5 ρ hst.1 hst.2 1 (by decide) lk_X7_getFromRow_69 (v := .int xa) rfl dX7_getFromRow_88 ?_
        refine lv_aload_n hx hb dX7_getFromRow_91 rfl (lv_at hl 1 rfl) ?_
        refine lv_iload hx hb dX7_getFromRow_92 (lv_at hl 0 rfl) ?_
        have hkd : sA κ 4 (aN ((sA κ 3 (aN xb)) - 1)) ≤ 5 := kd5 c_18
        refine r_kl hw (r_runV (rest := [.int xa, .ref (ad 2)]) hC hw (100 + 4 * (aN ((sA κ 3 (aN xb)) - 1))) (c_X6_getNumber (x1 := .null) l _ _ (100 + 4 * (aN ((sA κ 3 (aN xb)) - 1))) (101 + 4 * (aN ((sA κ 3 (aN xb)) - 1))) (sA κ 2 (aN xc)) hl_b hc_b (thl1 hB_b.2) (thc1 h6_b)) rk6 hl_b hc_b 1 gX7_getFromRow_X6_getNumber rfl rfl rfl (by decide +kernel) ⟨Nat.le_of_ble_eq_true rfl, Nat.le_of_ble_eq_true rfl⟩ rfl hl.1 rfl (Nat.le_of_ble_eq_true rfl) dX7_getFromRow_94 ⟨Nat.le_of_ble_eq_true rfl, Nat.le_of_ble_eq_true rfl⟩) (fun r_25 u_26 H locs h_24 hw => ?_)
        rw [getNum hkd hix.2.2 hix.2.1, ← hix.1] at h_24
        subst h_24
        refine r_kv hw (r_runV (rest := []) hC hw 2 (c_X3_setLong l _ _ 2 9 xa (sJ κ 1 (aN ((12 * ((sA κ 3 (aN xb)) - 1)) + (sA κ 2 (aN xc))))) (by assumption) (wXl 2 (by decide)) wXc2 (wXl 9 (by decide)) wXc9) rk3 (wXl 2 (by decide)) wXc2 2 gX7_getFromRow_X3_setLong rfl rfl rfl (by decide +kernel) ⟨Nat.le_of_ble_eq_true rfl, Nat.le_of_ble_eq_true rfl⟩ rfl hl.1 rfl (Nat.le_of_ble_eq_true rfl) dX7_getFromRow_97 ⟨Nat.le_of_ble_eq_true rfl, Nat.le_of_ble_eq_true rfl⟩) (fun u_29 H locs h_27 hw => ?_)
        replace hw := xS_longs hw
        refine lv_goto (tgt := 173) hx hb dX7_getFromRow_100 (by decide) ?_
        refine lv_iconst (v := 0) hx hb dX7_getFromRow_173 (by decide) ?_
        exact r_iret hC hr hlk hw (uJ κ 0 (aN xa) (sJ κ 1 (aN ((12 * ((sA κ 3 (aN xb)) - 1)) + (sA κ 2 (aN xc)))))) rfl (doR0 (κ := κ) (hd := hd) (th := th) (k := 44) (a := xa) (b := xb) (c := xc) ((if_neg w_19).trans ((if_neg n_4).trans (if_pos c_23)))).symm (Nat.le_of_ble_eq_true rfl) (Nat.le_of_ble_eq_true rfl) dX7_getFromRow_174
      · rw [if_neg c_23] at h_20
        subst h_20
        refine lv_if_ne (tgt := 52) hx hb dX7_getFromRow_47 (by decide) (fun c_ => absurd (by decide) c_) (fun _ => ?_)
        refine lv_iconst (v := 2) hx hb dX7_getFromRow_50 (by decide) ?_
        exact r_iret hC hr hlk hw κ rfl (doRf (κ := κ) (hd := hd) (th := th) (k := 44) (a := xa) (b := xb) (c := xc) ((if_neg w_19).trans ((if_neg n_4).trans (if_neg c_23))) (by decide)).symm (Nat.le_of_ble_eq_true rfl) (Nat.le_of_ble_eq_true rfl) dX7_getFromRow_51
    · rw [if_neg c_18] at h_15
      subst h_15
      have w_30 : pWrong κ (sA κ 3 (aN xb)) 5 := ⟨n_4, c_18⟩
      refine lv_if_eq (tgt := 35) hx hb dX7_getFromRow_30 (by decide) (fun c_ => absurd c_ (by decide)) (fun _ => ?_)
      refine lv_iconst (v := 4) hx hb dX7_getFromRow_33 (by decide) ?_
      exact r_iret hC hr hlk hw κ rfl (doRf (κ := κ) (hd := hd) (th := th) (k := 44) (a := xa) (b := xb) (c := xc) (if_pos w_30) (by decide)).symm (Nat.le_of_ble_eq_true rfl) (Nat.le_of_ble_eq_true rfl) dX7_getFromRow_34

set_option maxHeartbeats 4000000 in
set_option maxRecDepth 100000 in
theorem c_X7_getFromRow_45 (l : Launch) {D : va_G} {q : Nat → ClassId} {ad : Nat → Nat} {κ : KS} {τ : TAU} (sz : Nat) (ρ : Nat) (xa xb xc hd th : Int32) (hst : stepAt q ad κ τ ρ 45 xa xb xc) (hs : okStep 45 xa xb xc)(hX : WFx κ) (hN : nnOp κ 45 xa xb xc) : Met l yX7_getFromRow wsX7_getFromRow (rmz 2 42) (va_Pc [.ref (ad 5), .ref (ad ρ), .int 6] (rPre D q (wX q ad κ τ) sz)) (va_Qi (fun (r : Int32) (u : KS) => (r, u) = doR κ hd th 45 xa xb xc) (fun (u : KS) tt => rPo D (rA (wX q ad κ τ) sz) (wX q ad u τ) tt) (rA (wX q ad κ τ) sz)) 0 0 (rA (wX q ad κ τ) sz) := by
  have hi0 : vp_in xa 4 := hs.1
  have hi1 : vp_in xb 8 := hs.2.1
  have hi2 : vp_in xc 8 := hs.2.2
  refine r_start (cc := cX7_getFromRow) (maxL := 5) (ret := (some .int)) (by decide) rfl (Nat.le_of_ble_eq_true rfl) ?_
  intro p e s m below meth c ls hC hr hlk hnm hsz hw hl
  have hx := hC.1
  have hb := hC.2.1
  have hl : lv_has ls 5 [(0, .ref (ad 5)), (1, .ref (ad ρ)), (2, .int 6)] := hl
  refine lv_aload_n hx hb dX7_getFromRow_0 rfl (lv_at hl 0 rfl) ?_
  refine r_get hC hw rk7 in_X7_getFromRow_7 5 (wXl 5 (by decide)) wXc5 0 (by decide) lk_X7_getFromRow_9 (v := .ref (ad 2)) rfl dX7_getFromRow_1 ?_
  refine lv_aload_n hx hb dX7_getFromRow_4 rfl (lv_at hl 1 rfl) ?_
  refine r_get hC hw rk5 in_X7_getFromRow_5 ρ hst.1 hst.2 2 (by decide) lk_X7_getFromRow_74 (v := .int xb) rfl dX7_getFromRow_5 ?_
  refine r_kq hw (r_runV (rest := []) hC hw 2 (c_X3_getThing l _ _ 2 12 xb (wXl 2 (by decide)) wXc2 (wXl 12 (by decide)) wXc12) rk3 (wXl 2 (by decide)) wXc2 1 gX7_getFromRow_X3_getThing rfl rfl rfl (by decide +kernel) ⟨Nat.le_of_ble_eq_true rfl, Nat.le_of_ble_eq_true rfl⟩ rfl hl.1 rfl (Nat.le_of_ble_eq_true rfl) dX7_getFromRow_8 ⟨Nat.le_of_ble_eq_true rfl, Nat.le_of_ble_eq_true rfl⟩) (fun r_2 u_3 H locs h_1 hw => ?_)
  subst h_1
  by_cases n_4 : (sA κ 3 (aN xb)) = 0
  · refine r_topv (y := .null) (by rw [gN_in (by assumption) (by decide)]; show va_rf ((rT (sA κ 3 (aN xb))).map ad) = _; rw [rT0 n_4]; rfl) ?_
    refine lv_astore_nN (lv' := [(3, .null), (0, .ref (ad 5)), (1, .ref (ad ρ)), (2, .int 6)]) hx hb dX7_getFromRow_11 rfl hl (by decide) rfl (fun ls hl => ?_)
    refine lv_aload_n hx hb dX7_getFromRow_12 rfl (lv_at hl 1 rfl) ?_
    refine r_get hC hw rk7 in_X7_getFromRow_7 5 (wXl 5 (by decide)) wXc5 0 (by decide) lk_X7_getFromRow_9 (v := .ref (ad 2)) rfl dX7_getFromRow_13 ?_
    refine lv_aload_n hx hb dX7_getFromRow_16 rfl (lv_at hl 2 rfl) ?_
    refine r_get hC hw rk5 in_X7_getFromRow_5 ρ hst.1 hst.2 3 (by decide) lk_X7_getFromRow_57 (v := .int xc) rfl dX7_getFromRow_17 ?_
    refine r_ki hw (r_runV (rest := []) hC hw 2 (c_X3_getWord l _ _ 2 8 xc (wXl 2 (by decide)) wXc2 (wXl 8 (by decide)) wXc8) rk3 (wXl 2 (by decide)) wXc2 1 gX7_getFromRow_X3_getWord rfl rfl rfl (by decide +kernel) ⟨Nat.le_of_ble_eq_true rfl, Nat.le_of_ble_eq_true rfl⟩ rfl hl.1 rfl (Nat.le_of_ble_eq_true rfl) dX7_getFromRow_20 ⟨Nat.le_of_ble_eq_true rfl, Nat.le_of_ble_eq_true rfl⟩) (fun r_6 u_7 H locs h_5 hw => ?_)
    subst h_5
    refine r_topv (y := .int (sA κ 2 (aN xc))) (congrArg _ (gN_in (by assumption) (by decide))) ?_
    refine lv_istore (lv' := [(4, .int (sA κ 2 (aN xc))), (3, .null), (0, .ref (ad 5)), (1, .ref (ad ρ)), (2, .int 6)]) hx hb dX7_getFromRow_23 hl (by decide) rfl (fun ls hl => ?_)
    refine lv_aload_nN hx hb dX7_getFromRow_25 rfl (lv_at hl 1 rfl) ?_
    refine lv_iload_n hx hb dX7_getFromRow_26 rfl (lv_at hl 4 rfl) ?_
    refine r_ki hw (r_runSN (rest := []) hC hw hw.1.2.1 lks_X7_getFromRow lkz_X7_getFromRow_94 (c_X8_misfitsN_6 l _ _) 2 gX7_getFromRow_X8_misfits_n94 rfl rfl rfl (by decide +kernel) ⟨Nat.le_of_ble_eq_true rfl, Nat.le_of_ble_eq_true rfl⟩ rfl hl.1 rfl (Nat.le_of_ble_eq_true rfl) dX7_getFromRow_27 ⟨Nat.le_of_ble_eq_true rfl, Nat.le_of_ble_eq_true rfl⟩) (fun r_9 u_10 H locs h_8 hw => ?_)
    subst h_8
    have w_11 : ¬ pWrong κ (sA κ 3 (aN xb)) 6 := fun h => h.1 n_4
    refine lv_if_eq (tgt := 35) hx hb dX7_getFromRow_30 (by decide) (fun _ => ?_) (fun c_ => absurd (by decide) c_)
    refine lv_aload_nN hx hb dX7_getFromRow_35 rfl (lv_at hl 1 rfl) ?_
    refine lv_ifnonnullN hx hb dX7_getFromRow_36 ?_
    refine lv_iconst (v := 1) hx hb dX7_getFromRow_39 (by decide) ?_
    exact r_iret hC hr hlk hw κ rfl (doRf (κ := κ) (hd := hd) (th := th) (k := 45) (a := xa) (b := xb) (c := xc) ((if_neg w_11).trans (if_pos n_4)) (by decide)).symm (Nat.le_of_ble_eq_true rfl) (Nat.le_of_ble_eq_true rfl) dX7_getFromRow_40
  · refine r_topv (y := .ref (ad (100 + 4 * (aN ((sA κ 3 (aN xb)) - 1))))) (by rw [gN_in (by assumption) (by decide)]; show va_rf ((rT (sA κ 3 (aN xb))).map ad) = _; rw [rT1 n_4]; rfl) ?_
    have hB_b := hX.2.1 xb (by assumption) n_4
    have h6_b : (aN ((sA κ 3 (aN xb)) - 1)) < 60 := Nat.lt_of_lt_of_le hB_b.2 hX.1
    have hl_b : (wX q ad κ τ).2.1 (100 + 4 * (aN ((sA κ 3 (aN xb)) - 1))) := thl hB_b.2
    have hc_b : (wX q ad κ τ).2.2 (100 + 4 * (aN ((sA κ 3 (aN xb)) - 1))) = .inr (6, fsT ad κ (aN ((sA κ 3 (aN xb)) - 1))) := thc h6_b
    have hk_b := hX.2.2.1 _ hB_b.2
    refine lv_astore_n (lv' := [(3, .ref (ad (100 + 4 * (aN ((sA κ 3 (aN xb)) - 1))))), (0, .ref (ad 5)), (1, .ref (ad ρ)), (2, .int 6)]) hx hb dX7_getFromRow_11 rfl hl (by decide) rfl (fun ls hl => ?_)
    refine lv_aload_n hx hb dX7_getFromRow_12 rfl (lv_at hl 1 rfl) ?_
    refine r_get hC hw rk7 in_X7_getFromRow_7 5 (wXl 5 (by decide)) wXc5 0 (by decide) lk_X7_getFromRow_9 (v := .ref (ad 2)) rfl dX7_getFromRow_13 ?_
    refine lv_aload_n hx hb dX7_getFromRow_16 rfl (lv_at hl 2 rfl) ?_
    refine r_get hC hw rk5 in_X7_getFromRow_5 ρ hst.1 hst.2 3 (by decide) lk_X7_getFromRow_57 (v := .int xc) rfl dX7_getFromRow_17 ?_
    refine r_ki hw (r_runV (rest := []) hC hw 2 (c_X3_getWord l _ _ 2 8 xc (wXl 2 (by decide)) wXc2 (wXl 8 (by decide)) wXc8) rk3 (wXl 2 (by decide)) wXc2 1 gX7_getFromRow_X3_getWord rfl rfl rfl (by decide +kernel) ⟨Nat.le_of_ble_eq_true rfl, Nat.le_of_ble_eq_true rfl⟩ rfl hl.1 rfl (Nat.le_of_ble_eq_true rfl) dX7_getFromRow_20 ⟨Nat.le_of_ble_eq_true rfl, Nat.le_of_ble_eq_true rfl⟩) (fun r_13 u_14 H locs h_12 hw => ?_)
    subst h_12
    refine r_topv (y := .int (sA κ 2 (aN xc))) (congrArg _ (gN_in (by assumption) (by decide))) ?_
    refine lv_istore (lv' := [(4, .int (sA κ 2 (aN xc))), (3, .ref (ad (100 + 4 * (aN ((sA κ 3 (aN xb)) - 1))))), (0, .ref (ad 5)), (1, .ref (ad ρ)), (2, .int 6)]) hx hb dX7_getFromRow_23 hl (by decide) rfl (fun ls hl => ?_)
    refine lv_aload_n hx hb dX7_getFromRow_25 rfl (lv_at hl 1 rfl) ?_
    refine lv_iload_n hx hb dX7_getFromRow_26 rfl (lv_at hl 4 rfl) ?_
    refine r_ki hw (r_runSN (rest := []) hC hw hw.1.2.1 lks_X7_getFromRow lkz_X7_getFromRow_94 (c_X8_misfits_6 l _ _ (100 + 4 * (aN ((sA κ 3 (aN xb)) - 1))) hk_b.1 hl_b hc_b) 2 gX7_getFromRow_X8_misfits_n94 rfl rfl rfl (by decide +kernel) ⟨Nat.le_of_ble_eq_true rfl, Nat.le_of_ble_eq_true rfl⟩ rfl hl.1 rfl (Nat.le_of_ble_eq_true rfl) dX7_getFromRow_27 ⟨Nat.le_of_ble_eq_true rfl, Nat.le_of_ble_eq_true rfl⟩) (fun r_16 u_17 H locs h_15 hw => ?_)
    by_cases c_18 : pOf (sA κ 4 (aN ((sA κ 3 (aN xb)) - 1))) 6
    · rw [if_pos c_18] at h_15
      subst h_15
      have w_19 : ¬ pWrong κ (sA κ 3 (aN xb)) 6 := fun h => h.2 c_18
      refine lv_if_eq (tgt := 35) hx hb dX7_getFromRow_30 (by decide) (fun _ => ?_) (fun c_ => absurd (by decide) c_)
      refine lv_aload_n hx hb dX7_getFromRow_35 rfl (lv_at hl 1 rfl) ?_
      refine lv_ifnonnull (tgt := 41) hx hb dX7_getFromRow_36 (by decide) ?_
      refine lv_aload_n hx hb dX7_getFromRow_41 rfl (lv_at hl 1 rfl) ?_
      refine lv_iload hx hb dX7_getFromRow_42 (lv_at hl 0 rfl) ?_
      refine r_ki hw (r_runV (rest := []) hC hw (100 + 4 * (aN ((sA κ 3 (aN xb)) - 1))) (c_X6_hasPlace l _ _ (100 + 4 * (aN ((sA κ 3 (aN xb)) - 1))) (sA κ 2 (aN xc)) hl_b hc_b) rk6 hl_b hc_b 1 gX7_getFromRow_X6_hasPlace rfl rfl rfl (by decide +kernel) ⟨Nat.le_of_ble_eq_true rfl, Nat.le_of_ble_eq_true rfl⟩ rfl hl.1 rfl (Nat.le_of_ble_eq_true rfl) dX7_getFromRow_44 ⟨Nat.le_of_ble_eq_true rfl, Nat.le_of_ble_eq_true rfl⟩) (fun r_21 u_22 H locs h_20 hw => ?_)
      rw [hp_eq hk_b.2] at h_20
      by_cases c_23 : pIn (sA κ 2 (aN xc)) 0 ((sA κ 5 (aN ((sA κ 3 (aN xb)) - 1))) - 1)
      · rw [if_pos c_23] at h_20
        subst h_20
        have hix := ixN hB_b.1 c_23 hk_b.2
        refine lv_if_ne (tgt := 52) hx hb dX7_getFromRow_47 (by decide) (fun _ => ?_) (fun c_ => absurd c_ (by decide))
        refine lv_iload_n hx hb dX7_getFromRow_52 rfl (lv_at hl 4 rfl) ?_
        refine lv_iconst (v := 4) hx hb dX7_getFromRow_53 (by decide) ?_
        refine lv_icmp_gt (tgt := 78) hx hb dX7_getFromRow_54 (by decide) (fun _ => ?_) (fun c_ => absurd (by decide) c_)
        refine lv_iload_n hx hb dX7_getFromRow_78 rfl (lv_at hl 4 rfl) ?_
        refine lv_iconst (v := 5) hx hb dX7_getFromRow_79 (by decide) ?_
        refine lv_icmp_ne (tgt := 103) hx hb dX7_getFromRow_80 (by decide) (fun _ => ?_) (fun c_ => absurd c_ (by decide))
        refine lv_iload_n hx hb dX7_getFromRow_103 rfl (lv_at hl 4 rfl) ?_
        refine lv_bipush (v := 6) hx hb dX7_getFromRow_104 (by decide) ?_
        refine lv_icmp_ne (tgt := 130) hx hb dX7_getFromRow_106 (by decide) (fun c_ => absurd (by decide) c_) (fun _ => ?_)
        refine lv_aload_n hx hb dX7_getFromRow_109 rfl (lv_at hl 2 rfl) ?_
        refine r_get hC hw rk7 in_X7_getFromRow_7 5 (wXl 5 (by decide)) wXc5 0 (by decide) lk_X7_getFromRow_9 (v := .ref (ad 2)) rfl dX7_getFromRow_110 ?_
        refine lv_aload_n hx hb dX7_getFromRow_113 rfl (lv_at hl 3 rfl) ?_
        refine r_get hC hw rk5 in_X7_getFromRow_5 ρ hst.1 hst.2 1 (by decide) lk_X7_getFromRow_69 (v := .int xa) rfl dX7_getFromRow_114 ?_
        refine lv_aload_n hx hb dX7_getFromRow_117 rfl (lv_at hl 1 rfl) ?_
        refine lv_iload hx hb dX7_getFromRow_118 (lv_at hl 0 rfl) ?_
        have hkd : sA κ 4 (aN ((sA κ 3 (aN xb)) - 1)) = 6 ∨ sA κ 4 (aN ((sA κ 3 (aN xb)) - 1)) = 7 := kd67 c_18
        refine r_kd hw (r_runV (rest := [.int xa, .ref (ad 2)]) hC hw (100 + 4 * (aN ((sA κ 3 (aN xb)) - 1))) (c_X6_getPoint (x2 := .null) l _ _ (100 + 4 * (aN ((sA κ 3 (aN xb)) - 1))) (102 + 4 * (aN ((sA κ 3 (aN xb)) - 1))) (sA κ 2 (aN xc)) hl_b hc_b (thl2 hB_b.2) (thc2 h6_b)) rk6 hl_b hc_b 1 gX7_getFromRow_X6_getPoint rfl rfl rfl (by decide +kernel) ⟨Nat.le_of_ble_eq_true rfl, Nat.le_of_ble_eq_true rfl⟩ rfl hl.1 rfl (Nat.le_of_ble_eq_true rfl) dX7_getFromRow_120 ⟨Nat.le_of_ble_eq_true rfl, Nat.le_of_ble_eq_true rfl⟩) (fun r_25 u_26 H locs h_24 hw => ?_)
        rw [getPt hkd hix.2.2 hix.2.1, ← hix.1] at h_24
        subst h_24
        refine lv_d2f hx hb dX7_getFromRow_123 hN ?_
        refine r_kv hw (r_runV (rest := []) hC hw 2 (c_X3_setSingle l _ _ 2 10 xa (FP.d2f (sD κ 1 (aN ((12 * ((sA κ 3 (aN xb)) - 1)) + (sA κ 2 (aN xc)))))) (by assumption) (wXl 2 (by decide)) wXc2 (wXl 10 (by decide)) wXc10) rk3 (wXl 2 (by decide)) wXc2 2 gX7_getFromRow_X3_setSingle rfl rfl rfl (by decide +kernel) ⟨Nat.le_of_ble_eq_true rfl, Nat.le_of_ble_eq_true rfl⟩ rfl hl.1 rfl (Nat.le_of_ble_eq_true rfl) dX7_getFromRow_124 ⟨Nat.le_of_ble_eq_true rfl, Nat.le_of_ble_eq_true rfl⟩) (fun u_29 H locs h_27 hw => ?_)
        replace hw := xS_singles hw
        refine lv_goto (tgt := 173) hx hb dX7_getFromRow_127 (by decide) ?_
        refine lv_iconst (v := 0) hx hb dX7_getFromRow_173 (by decide) ?_
        exact r_iret hC hr hlk hw (uF κ (aN xa) (FP.d2f (sD κ 1 (aN ((12 * ((sA κ 3 (aN xb)) - 1)) + (sA κ 2 (aN xc))))))) rfl (doR0 (κ := κ) (hd := hd) (th := th) (k := 45) (a := xa) (b := xb) (c := xc) ((if_neg w_19).trans ((if_neg n_4).trans (if_pos c_23)))).symm (Nat.le_of_ble_eq_true rfl) (Nat.le_of_ble_eq_true rfl) dX7_getFromRow_174
      · rw [if_neg c_23] at h_20
        subst h_20
        refine lv_if_ne (tgt := 52) hx hb dX7_getFromRow_47 (by decide) (fun c_ => absurd (by decide) c_) (fun _ => ?_)
        refine lv_iconst (v := 2) hx hb dX7_getFromRow_50 (by decide) ?_
        exact r_iret hC hr hlk hw κ rfl (doRf (κ := κ) (hd := hd) (th := th) (k := 45) (a := xa) (b := xb) (c := xc) ((if_neg w_19).trans ((if_neg n_4).trans (if_neg c_23))) (by decide)).symm (Nat.le_of_ble_eq_true rfl) (Nat.le_of_ble_eq_true rfl) dX7_getFromRow_51
    · rw [if_neg c_18] at h_15
      subst h_15
      have w_30 : pWrong κ (sA κ 3 (aN xb)) 6 := ⟨n_4, c_18⟩
      refine lv_if_eq (tgt := 35) hx hb dX7_getFromRow_30 (by decide) (fun c_ => absurd c_ (by decide)) (fun _ => ?_)
      refine lv_iconst (v := 4) hx hb dX7_getFromRow_33 (by decide) ?_
      exact r_iret hC hr hlk hw κ rfl (doRf (κ := κ) (hd := hd) (th := th) (k := 45) (a := xa) (b := xb) (c := xc) (if_pos w_30) (by decide)).symm (Nat.le_of_ble_eq_true rfl) (Nat.le_of_ble_eq_true rfl) dX7_getFromRow_34

set_option maxHeartbeats 4000000 in
set_option maxRecDepth 100000 in
theorem c_X7_getFromRow_46 (l : Launch) {D : va_G} {q : Nat → ClassId} {ad : Nat → Nat} {κ : KS} {τ : TAU} (sz : Nat) (ρ : Nat) (xa xb xc hd th : Int32) (hst : stepAt q ad κ τ ρ 46 xa xb xc) (hs : okStep 46 xa xb xc)(hX : WFx κ) (hN : nnOp κ 46 xa xb xc) : Met l yX7_getFromRow wsX7_getFromRow (rmz 2 42) (va_Pc [.ref (ad 5), .ref (ad ρ), .int 7] (rPre D q (wX q ad κ τ) sz)) (va_Qi (fun (r : Int32) (u : KS) => (r, u) = doR κ hd th 46 xa xb xc) (fun (u : KS) tt => rPo D (rA (wX q ad κ τ) sz) (wX q ad u τ) tt) (rA (wX q ad κ τ) sz)) 0 0 (rA (wX q ad κ τ) sz) := by
  have hi0 : vp_in xa 4 := hs.1
  have hi1 : vp_in xb 8 := hs.2.1
  have hi2 : vp_in xc 8 := hs.2.2
  refine r_start (cc := cX7_getFromRow) (maxL := 5) (ret := (some .int)) (by decide) rfl (Nat.le_of_ble_eq_true rfl) ?_
  intro p e s m below meth c ls hC hr hlk hnm hsz hw hl
  have hx := hC.1
  have hb := hC.2.1
  have hl : lv_has ls 5 [(0, .ref (ad 5)), (1, .ref (ad ρ)), (2, .int 7)] := hl
  refine lv_aload_n hx hb dX7_getFromRow_0 rfl (lv_at hl 0 rfl) ?_
  refine r_get hC hw rk7 in_X7_getFromRow_7 5 (wXl 5 (by decide)) wXc5 0 (by decide) lk_X7_getFromRow_9 (v := .ref (ad 2)) rfl dX7_getFromRow_1 ?_
  refine lv_aload_n hx hb dX7_getFromRow_4 rfl (lv_at hl 1 rfl) ?_
  refine r_get hC hw rk5 in_X7_getFromRow_5 ρ hst.1 hst.2 2 (by decide) lk_X7_getFromRow_74 (v := .int xb) rfl dX7_getFromRow_5 ?_
  refine r_kq hw (r_runV (rest := []) hC hw 2 (c_X3_getThing l _ _ 2 12 xb (wXl 2 (by decide)) wXc2 (wXl 12 (by decide)) wXc12) rk3 (wXl 2 (by decide)) wXc2 1 gX7_getFromRow_X3_getThing rfl rfl rfl (by decide +kernel) ⟨Nat.le_of_ble_eq_true rfl, Nat.le_of_ble_eq_true rfl⟩ rfl hl.1 rfl (Nat.le_of_ble_eq_true rfl) dX7_getFromRow_8 ⟨Nat.le_of_ble_eq_true rfl, Nat.le_of_ble_eq_true rfl⟩) (fun r_2 u_3 H locs h_1 hw => ?_)
  subst h_1
  by_cases n_4 : (sA κ 3 (aN xb)) = 0
  · refine r_topv (y := .null) (by rw [gN_in (by assumption) (by decide)]; show va_rf ((rT (sA κ 3 (aN xb))).map ad) = _; rw [rT0 n_4]; rfl) ?_
    refine lv_astore_nN (lv' := [(3, .null), (0, .ref (ad 5)), (1, .ref (ad ρ)), (2, .int 7)]) hx hb dX7_getFromRow_11 rfl hl (by decide) rfl (fun ls hl => ?_)
    refine lv_aload_n hx hb dX7_getFromRow_12 rfl (lv_at hl 1 rfl) ?_
    refine r_get hC hw rk7 in_X7_getFromRow_7 5 (wXl 5 (by decide)) wXc5 0 (by decide) lk_X7_getFromRow_9 (v := .ref (ad 2)) rfl dX7_getFromRow_13 ?_
    refine lv_aload_n hx hb dX7_getFromRow_16 rfl (lv_at hl 2 rfl) ?_
    refine r_get hC hw rk5 in_X7_getFromRow_5 ρ hst.1 hst.2 3 (by decide) lk_X7_getFromRow_57 (v := .int xc) rfl dX7_getFromRow_17 ?_
    refine r_ki hw (r_runV (rest := []) hC hw 2 (c_X3_getWord l _ _ 2 8 xc (wXl 2 (by decide)) wXc2 (wXl 8 (by decide)) wXc8) rk3 (wXl 2 (by decide)) wXc2 1 gX7_getFromRow_X3_getWord rfl rfl rfl (by decide +kernel) ⟨Nat.le_of_ble_eq_true rfl, Nat.le_of_ble_eq_true rfl⟩ rfl hl.1 rfl (Nat.le_of_ble_eq_true rfl) dX7_getFromRow_20 ⟨Nat.le_of_ble_eq_true rfl, Nat.le_of_ble_eq_true rfl⟩) (fun r_6 u_7 H locs h_5 hw => ?_)
    subst h_5
    refine r_topv (y := .int (sA κ 2 (aN xc))) (congrArg _ (gN_in (by assumption) (by decide))) ?_
    refine lv_istore (lv' := [(4, .int (sA κ 2 (aN xc))), (3, .null), (0, .ref (ad 5)), (1, .ref (ad ρ)), (2, .int 7)]) hx hb dX7_getFromRow_23 hl (by decide) rfl (fun ls hl => ?_)
    refine lv_aload_nN hx hb dX7_getFromRow_25 rfl (lv_at hl 1 rfl) ?_
    refine lv_iload_n hx hb dX7_getFromRow_26 rfl (lv_at hl 4 rfl) ?_
    refine r_ki hw (r_runSN (rest := []) hC hw hw.1.2.1 lks_X7_getFromRow lkz_X7_getFromRow_94 (c_X8_misfitsN_7 l _ _) 2 gX7_getFromRow_X8_misfits_n94 rfl rfl rfl (by decide +kernel) ⟨Nat.le_of_ble_eq_true rfl, Nat.le_of_ble_eq_true rfl⟩ rfl hl.1 rfl (Nat.le_of_ble_eq_true rfl) dX7_getFromRow_27 ⟨Nat.le_of_ble_eq_true rfl, Nat.le_of_ble_eq_true rfl⟩) (fun r_9 u_10 H locs h_8 hw => ?_)
    subst h_8
    have w_11 : ¬ pWrong κ (sA κ 3 (aN xb)) 7 := fun h => h.1 n_4
    refine lv_if_eq (tgt := 35) hx hb dX7_getFromRow_30 (by decide) (fun _ => ?_) (fun c_ => absurd (by decide) c_)
    refine lv_aload_nN hx hb dX7_getFromRow_35 rfl (lv_at hl 1 rfl) ?_
    refine lv_ifnonnullN hx hb dX7_getFromRow_36 ?_
    refine lv_iconst (v := 1) hx hb dX7_getFromRow_39 (by decide) ?_
    exact r_iret hC hr hlk hw κ rfl (doRf (κ := κ) (hd := hd) (th := th) (k := 46) (a := xa) (b := xb) (c := xc) ((if_neg w_11).trans (if_pos n_4)) (by decide)).symm (Nat.le_of_ble_eq_true rfl) (Nat.le_of_ble_eq_true rfl) dX7_getFromRow_40
  · refine r_topv (y := .ref (ad (100 + 4 * (aN ((sA κ 3 (aN xb)) - 1))))) (by rw [gN_in (by assumption) (by decide)]; show va_rf ((rT (sA κ 3 (aN xb))).map ad) = _; rw [rT1 n_4]; rfl) ?_
    have hB_b := hX.2.1 xb (by assumption) n_4
    have h6_b : (aN ((sA κ 3 (aN xb)) - 1)) < 60 := Nat.lt_of_lt_of_le hB_b.2 hX.1
    have hl_b : (wX q ad κ τ).2.1 (100 + 4 * (aN ((sA κ 3 (aN xb)) - 1))) := thl hB_b.2
    have hc_b : (wX q ad κ τ).2.2 (100 + 4 * (aN ((sA κ 3 (aN xb)) - 1))) = .inr (6, fsT ad κ (aN ((sA κ 3 (aN xb)) - 1))) := thc h6_b
    have hk_b := hX.2.2.1 _ hB_b.2
    refine lv_astore_n (lv' := [(3, .ref (ad (100 + 4 * (aN ((sA κ 3 (aN xb)) - 1))))), (0, .ref (ad 5)), (1, .ref (ad ρ)), (2, .int 7)]) hx hb dX7_getFromRow_11 rfl hl (by decide) rfl (fun ls hl => ?_)
    refine lv_aload_n hx hb dX7_getFromRow_12 rfl (lv_at hl 1 rfl) ?_
    refine r_get hC hw rk7 in_X7_getFromRow_7 5 (wXl 5 (by decide)) wXc5 0 (by decide) lk_X7_getFromRow_9 (v := .ref (ad 2)) rfl dX7_getFromRow_13 ?_
    refine lv_aload_n hx hb dX7_getFromRow_16 rfl (lv_at hl 2 rfl) ?_
    refine r_get hC hw rk5 in_X7_getFromRow_5 ρ hst.1 hst.2 3 (by decide) lk_X7_getFromRow_57 (v := .int xc) rfl dX7_getFromRow_17 ?_
    refine r_ki hw (r_runV (rest := []) hC hw 2 (c_X3_getWord l _ _ 2 8 xc (wXl 2 (by decide)) wXc2 (wXl 8 (by decide)) wXc8) rk3 (wXl 2 (by decide)) wXc2 1 gX7_getFromRow_X3_getWord rfl rfl rfl (by decide +kernel) ⟨Nat.le_of_ble_eq_true rfl, Nat.le_of_ble_eq_true rfl⟩ rfl hl.1 rfl (Nat.le_of_ble_eq_true rfl) dX7_getFromRow_20 ⟨Nat.le_of_ble_eq_true rfl, Nat.le_of_ble_eq_true rfl⟩) (fun r_13 u_14 H locs h_12 hw => ?_)
    subst h_12
    refine r_topv (y := .int (sA κ 2 (aN xc))) (congrArg _ (gN_in (by assumption) (by decide))) ?_
    refine lv_istore (lv' := [(4, .int (sA κ 2 (aN xc))), (3, .ref (ad (100 + 4 * (aN ((sA κ 3 (aN xb)) - 1))))), (0, .ref (ad 5)), (1, .ref (ad ρ)), (2, .int 7)]) hx hb dX7_getFromRow_23 hl (by decide) rfl (fun ls hl => ?_)
    refine lv_aload_n hx hb dX7_getFromRow_25 rfl (lv_at hl 1 rfl) ?_
    refine lv_iload_n hx hb dX7_getFromRow_26 rfl (lv_at hl 4 rfl) ?_
    refine r_ki hw (r_runSN (rest := []) hC hw hw.1.2.1 lks_X7_getFromRow lkz_X7_getFromRow_94 (c_X8_misfits_7 l _ _ (100 + 4 * (aN ((sA κ 3 (aN xb)) - 1))) hk_b.1 hl_b hc_b) 2 gX7_getFromRow_X8_misfits_n94 rfl rfl rfl (by decide +kernel) ⟨Nat.le_of_ble_eq_true rfl, Nat.le_of_ble_eq_true rfl⟩ rfl hl.1 rfl (Nat.le_of_ble_eq_true rfl) dX7_getFromRow_27 ⟨Nat.le_of_ble_eq_true rfl, Nat.le_of_ble_eq_true rfl⟩) (fun r_16 u_17 H locs h_15 hw => ?_)
    by_cases c_18 : pOf (sA κ 4 (aN ((sA κ 3 (aN xb)) - 1))) 7
    · rw [if_pos c_18] at h_15
      subst h_15
      have w_19 : ¬ pWrong κ (sA κ 3 (aN xb)) 7 := fun h => h.2 c_18
      refine lv_if_eq (tgt := 35) hx hb dX7_getFromRow_30 (by decide) (fun _ => ?_) (fun c_ => absurd (by decide) c_)
      refine lv_aload_n hx hb dX7_getFromRow_35 rfl (lv_at hl 1 rfl) ?_
      refine lv_ifnonnull (tgt := 41) hx hb dX7_getFromRow_36 (by decide) ?_
      refine lv_aload_n hx hb dX7_getFromRow_41 rfl (lv_at hl 1 rfl) ?_
      refine lv_iload hx hb dX7_getFromRow_42 (lv_at hl 0 rfl) ?_
      refine r_ki hw (r_runV (rest := []) hC hw (100 + 4 * (aN ((sA κ 3 (aN xb)) - 1))) (c_X6_hasPlace l _ _ (100 + 4 * (aN ((sA κ 3 (aN xb)) - 1))) (sA κ 2 (aN xc)) hl_b hc_b) rk6 hl_b hc_b 1 gX7_getFromRow_X6_hasPlace rfl rfl rfl (by decide +kernel) ⟨Nat.le_of_ble_eq_true rfl, Nat.le_of_ble_eq_true rfl⟩ rfl hl.1 rfl (Nat.le_of_ble_eq_true rfl) dX7_getFromRow_44 ⟨Nat.le_of_ble_eq_true rfl, Nat.le_of_ble_eq_true rfl⟩) (fun r_21 u_22 H locs h_20 hw => ?_)
      rw [hp_eq hk_b.2] at h_20
      by_cases c_23 : pIn (sA κ 2 (aN xc)) 0 ((sA κ 5 (aN ((sA κ 3 (aN xb)) - 1))) - 1)
      · rw [if_pos c_23] at h_20
        subst h_20
        have hix := ixN hB_b.1 c_23 hk_b.2
        refine lv_if_ne (tgt := 52) hx hb dX7_getFromRow_47 (by decide) (fun _ => ?_) (fun c_ => absurd c_ (by decide))
        refine lv_iload_n hx hb dX7_getFromRow_52 rfl (lv_at hl 4 rfl) ?_
        refine lv_iconst (v := 4) hx hb dX7_getFromRow_53 (by decide) ?_
        refine lv_icmp_gt (tgt := 78) hx hb dX7_getFromRow_54 (by decide) (fun _ => ?_) (fun c_ => absurd (by decide) c_)
        refine lv_iload_n hx hb dX7_getFromRow_78 rfl (lv_at hl 4 rfl) ?_
        refine lv_iconst (v := 5) hx hb dX7_getFromRow_79 (by decide) ?_
        refine lv_icmp_ne (tgt := 103) hx hb dX7_getFromRow_80 (by decide) (fun _ => ?_) (fun c_ => absurd c_ (by decide))
        refine lv_iload_n hx hb dX7_getFromRow_103 rfl (lv_at hl 4 rfl) ?_
        refine lv_bipush (v := 6) hx hb dX7_getFromRow_104 (by decide) ?_
        refine lv_icmp_ne (tgt := 130) hx hb dX7_getFromRow_106 (by decide) (fun _ => ?_) (fun c_ => absurd c_ (by decide))
        refine lv_iload_n hx hb dX7_getFromRow_130 rfl (lv_at hl 4 rfl) ?_
        refine lv_bipush (v := 7) hx hb dX7_getFromRow_131 (by decide) ?_
        refine lv_icmp_ne (tgt := 156) hx hb dX7_getFromRow_133 (by decide) (fun c_ => absurd (by decide) c_) (fun _ => ?_)
        refine lv_aload_n hx hb dX7_getFromRow_136 rfl (lv_at hl 2 rfl) ?_
        refine r_get hC hw rk7 in_X7_getFromRow_7 5 (wXl 5 (by decide)) wXc5 0 (by decide) lk_X7_getFromRow_9 (v := .ref (ad 2)) rfl dX7_getFromRow_137 ?_
        refine lv_aload_n hx hb dX7_getFromRow_140 rfl (lv_at hl 3 rfl) ?_
        refine r_get hC hw rk5 in_X7_getFromRow_5 ρ hst.1 hst.2 1 (by decide) lk_X7_getFromRow_69 (v := .int xa) rfl dX7_getFromRow_141 ?_
        refine lv_aload_n hx hb dX7_getFromRow_144 rfl (lv_at hl 1 rfl) ?_
        refine lv_iload hx hb dX7_getFromRow_145 (lv_at hl 0 rfl) ?_
        have hkd : sA κ 4 (aN ((sA κ 3 (aN xb)) - 1)) = 6 ∨ sA κ 4 (aN ((sA κ 3 (aN xb)) - 1)) = 7 := kd67 c_18
        refine r_kd hw (r_runV (rest := [.int xa, .ref (ad 2)]) hC hw (100 + 4 * (aN ((sA κ 3 (aN xb)) - 1))) (c_X6_getPoint (x2 := .null) l _ _ (100 + 4 * (aN ((sA κ 3 (aN xb)) - 1))) (102 + 4 * (aN ((sA κ 3 (aN xb)) - 1))) (sA κ 2 (aN xc)) hl_b hc_b (thl2 hB_b.2) (thc2 h6_b)) rk6 hl_b hc_b 1 gX7_getFromRow_X6_getPoint rfl rfl rfl (by decide +kernel) ⟨Nat.le_of_ble_eq_true rfl, Nat.le_of_ble_eq_true rfl⟩ rfl hl.1 rfl (Nat.le_of_ble_eq_true rfl) dX7_getFromRow_147 ⟨Nat.le_of_ble_eq_true rfl, Nat.le_of_ble_eq_true rfl⟩) (fun r_25 u_26 H locs h_24 hw => ?_)
        rw [getPt hkd hix.2.2 hix.2.1, ← hix.1] at h_24
        subst h_24
        refine r_kv hw (r_runV (rest := []) hC hw 2 (c_X3_setDouble l _ _ 2 11 xa (sD κ 1 (aN ((12 * ((sA κ 3 (aN xb)) - 1)) + (sA κ 2 (aN xc))))) (by assumption) (wXl 2 (by decide)) wXc2 (wXl 11 (by decide)) wXc11) rk3 (wXl 2 (by decide)) wXc2 2 gX7_getFromRow_X3_setDouble rfl rfl rfl (by decide +kernel) ⟨Nat.le_of_ble_eq_true rfl, Nat.le_of_ble_eq_true rfl⟩ rfl hl.1 rfl (Nat.le_of_ble_eq_true rfl) dX7_getFromRow_150 ⟨Nat.le_of_ble_eq_true rfl, Nat.le_of_ble_eq_true rfl⟩) (fun u_29 H locs h_27 hw => ?_)
        replace hw := xS_doubles hw
        refine lv_goto (tgt := 173) hx hb dX7_getFromRow_153 (by decide) ?_
        refine lv_iconst (v := 0) hx hb dX7_getFromRow_173 (by decide) ?_
        exact r_iret hC hr hlk hw (uD κ 0 (aN xa) (sD κ 1 (aN ((12 * ((sA κ 3 (aN xb)) - 1)) + (sA κ 2 (aN xc)))))) rfl (doR0 (κ := κ) (hd := hd) (th := th) (k := 46) (a := xa) (b := xb) (c := xc) ((if_neg w_19).trans ((if_neg n_4).trans (if_pos c_23)))).symm (Nat.le_of_ble_eq_true rfl) (Nat.le_of_ble_eq_true rfl) dX7_getFromRow_174
      · rw [if_neg c_23] at h_20
        subst h_20
        refine lv_if_ne (tgt := 52) hx hb dX7_getFromRow_47 (by decide) (fun c_ => absurd (by decide) c_) (fun _ => ?_)
        refine lv_iconst (v := 2) hx hb dX7_getFromRow_50 (by decide) ?_
        exact r_iret hC hr hlk hw κ rfl (doRf (κ := κ) (hd := hd) (th := th) (k := 46) (a := xa) (b := xb) (c := xc) ((if_neg w_19).trans ((if_neg n_4).trans (if_neg c_23))) (by decide)).symm (Nat.le_of_ble_eq_true rfl) (Nat.le_of_ble_eq_true rfl) dX7_getFromRow_51
    · rw [if_neg c_18] at h_15
      subst h_15
      have w_30 : pWrong κ (sA κ 3 (aN xb)) 7 := ⟨n_4, c_18⟩
      refine lv_if_eq (tgt := 35) hx hb dX7_getFromRow_30 (by decide) (fun c_ => absurd c_ (by decide)) (fun _ => ?_)
      refine lv_iconst (v := 4) hx hb dX7_getFromRow_33 (by decide) ?_
      exact r_iret hC hr hlk hw κ rfl (doRf (κ := κ) (hd := hd) (th := th) (k := 46) (a := xa) (b := xb) (c := xc) (if_pos w_30) (by decide)).symm (Nat.le_of_ble_eq_true rfl) (Nat.le_of_ble_eq_true rfl) dX7_getFromRow_34

set_option maxHeartbeats 4000000 in
set_option maxRecDepth 100000 in
theorem c_X7_getFromRow_47 (l : Launch) {D : va_G} {q : Nat → ClassId} {ad : Nat → Nat} {κ : KS} {τ : TAU} (sz : Nat) (ρ : Nat) (xa xb xc hd th : Int32) (hst : stepAt q ad κ τ ρ 47 xa xb xc) (hs : okStep 47 xa xb xc)(hX : WFx κ) (hN : nnOp κ 47 xa xb xc) : Met l yX7_getFromRow wsX7_getFromRow (rmz 2 42) (va_Pc [.ref (ad 5), .ref (ad ρ), .int 8] (rPre D q (wX q ad κ τ) sz)) (va_Qi (fun (r : Int32) (u : KS) => (r, u) = doR κ hd th 47 xa xb xc) (fun (u : KS) tt => rPo D (rA (wX q ad κ τ) sz) (wX q ad u τ) tt) (rA (wX q ad κ τ) sz)) 0 0 (rA (wX q ad κ τ) sz) := by
  have hi0 : vp_in xa 8 := hs.1
  have hi1 : vp_in xb 8 := hs.2.1
  have hi2 : vp_in xc 8 := hs.2.2
  refine r_start (cc := cX7_getFromRow) (maxL := 5) (ret := (some .int)) (by decide) rfl (Nat.le_of_ble_eq_true rfl) ?_
  intro p e s m below meth c ls hC hr hlk hnm hsz hw hl
  have hx := hC.1
  have hb := hC.2.1
  have hl : lv_has ls 5 [(0, .ref (ad 5)), (1, .ref (ad ρ)), (2, .int 8)] := hl
  refine lv_aload_n hx hb dX7_getFromRow_0 rfl (lv_at hl 0 rfl) ?_
  refine r_get hC hw rk7 in_X7_getFromRow_7 5 (wXl 5 (by decide)) wXc5 0 (by decide) lk_X7_getFromRow_9 (v := .ref (ad 2)) rfl dX7_getFromRow_1 ?_
  refine lv_aload_n hx hb dX7_getFromRow_4 rfl (lv_at hl 1 rfl) ?_
  refine r_get hC hw rk5 in_X7_getFromRow_5 ρ hst.1 hst.2 2 (by decide) lk_X7_getFromRow_74 (v := .int xb) rfl dX7_getFromRow_5 ?_
  refine r_kq hw (r_runV (rest := []) hC hw 2 (c_X3_getThing l _ _ 2 12 xb (wXl 2 (by decide)) wXc2 (wXl 12 (by decide)) wXc12) rk3 (wXl 2 (by decide)) wXc2 1 gX7_getFromRow_X3_getThing rfl rfl rfl (by decide +kernel) ⟨Nat.le_of_ble_eq_true rfl, Nat.le_of_ble_eq_true rfl⟩ rfl hl.1 rfl (Nat.le_of_ble_eq_true rfl) dX7_getFromRow_8 ⟨Nat.le_of_ble_eq_true rfl, Nat.le_of_ble_eq_true rfl⟩) (fun r_2 u_3 H locs h_1 hw => ?_)
  subst h_1
  by_cases n_4 : (sA κ 3 (aN xb)) = 0
  · refine r_topv (y := .null) (by rw [gN_in (by assumption) (by decide)]; show va_rf ((rT (sA κ 3 (aN xb))).map ad) = _; rw [rT0 n_4]; rfl) ?_
    refine lv_astore_nN (lv' := [(3, .null), (0, .ref (ad 5)), (1, .ref (ad ρ)), (2, .int 8)]) hx hb dX7_getFromRow_11 rfl hl (by decide) rfl (fun ls hl => ?_)
    refine lv_aload_n hx hb dX7_getFromRow_12 rfl (lv_at hl 1 rfl) ?_
    refine r_get hC hw rk7 in_X7_getFromRow_7 5 (wXl 5 (by decide)) wXc5 0 (by decide) lk_X7_getFromRow_9 (v := .ref (ad 2)) rfl dX7_getFromRow_13 ?_
    refine lv_aload_n hx hb dX7_getFromRow_16 rfl (lv_at hl 2 rfl) ?_
    refine r_get hC hw rk5 in_X7_getFromRow_5 ρ hst.1 hst.2 3 (by decide) lk_X7_getFromRow_57 (v := .int xc) rfl dX7_getFromRow_17 ?_
    refine r_ki hw (r_runV (rest := []) hC hw 2 (c_X3_getWord l _ _ 2 8 xc (wXl 2 (by decide)) wXc2 (wXl 8 (by decide)) wXc8) rk3 (wXl 2 (by decide)) wXc2 1 gX7_getFromRow_X3_getWord rfl rfl rfl (by decide +kernel) ⟨Nat.le_of_ble_eq_true rfl, Nat.le_of_ble_eq_true rfl⟩ rfl hl.1 rfl (Nat.le_of_ble_eq_true rfl) dX7_getFromRow_20 ⟨Nat.le_of_ble_eq_true rfl, Nat.le_of_ble_eq_true rfl⟩) (fun r_6 u_7 H locs h_5 hw => ?_)
    subst h_5
    refine r_topv (y := .int (sA κ 2 (aN xc))) (congrArg _ (gN_in (by assumption) (by decide))) ?_
    refine lv_istore (lv' := [(4, .int (sA κ 2 (aN xc))), (3, .null), (0, .ref (ad 5)), (1, .ref (ad ρ)), (2, .int 8)]) hx hb dX7_getFromRow_23 hl (by decide) rfl (fun ls hl => ?_)
    refine lv_aload_nN hx hb dX7_getFromRow_25 rfl (lv_at hl 1 rfl) ?_
    refine lv_iload_n hx hb dX7_getFromRow_26 rfl (lv_at hl 4 rfl) ?_
    refine r_ki hw (r_runSN (rest := []) hC hw hw.1.2.1 lks_X7_getFromRow lkz_X7_getFromRow_94 (c_X8_misfitsN_8 l _ _) 2 gX7_getFromRow_X8_misfits_n94 rfl rfl rfl (by decide +kernel) ⟨Nat.le_of_ble_eq_true rfl, Nat.le_of_ble_eq_true rfl⟩ rfl hl.1 rfl (Nat.le_of_ble_eq_true rfl) dX7_getFromRow_27 ⟨Nat.le_of_ble_eq_true rfl, Nat.le_of_ble_eq_true rfl⟩) (fun r_9 u_10 H locs h_8 hw => ?_)
    subst h_8
    have w_11 : ¬ pWrong κ (sA κ 3 (aN xb)) 8 := fun h => h.1 n_4
    refine lv_if_eq (tgt := 35) hx hb dX7_getFromRow_30 (by decide) (fun _ => ?_) (fun c_ => absurd (by decide) c_)
    refine lv_aload_nN hx hb dX7_getFromRow_35 rfl (lv_at hl 1 rfl) ?_
    refine lv_ifnonnullN hx hb dX7_getFromRow_36 ?_
    refine lv_iconst (v := 1) hx hb dX7_getFromRow_39 (by decide) ?_
    exact r_iret hC hr hlk hw κ rfl (doRf (κ := κ) (hd := hd) (th := th) (k := 47) (a := xa) (b := xb) (c := xc) ((if_neg w_11).trans (if_pos n_4)) (by decide)).symm (Nat.le_of_ble_eq_true rfl) (Nat.le_of_ble_eq_true rfl) dX7_getFromRow_40
  · refine r_topv (y := .ref (ad (100 + 4 * (aN ((sA κ 3 (aN xb)) - 1))))) (by rw [gN_in (by assumption) (by decide)]; show va_rf ((rT (sA κ 3 (aN xb))).map ad) = _; rw [rT1 n_4]; rfl) ?_
    have hB_b := hX.2.1 xb (by assumption) n_4
    have h6_b : (aN ((sA κ 3 (aN xb)) - 1)) < 60 := Nat.lt_of_lt_of_le hB_b.2 hX.1
    have hl_b : (wX q ad κ τ).2.1 (100 + 4 * (aN ((sA κ 3 (aN xb)) - 1))) := thl hB_b.2
    have hc_b : (wX q ad κ τ).2.2 (100 + 4 * (aN ((sA κ 3 (aN xb)) - 1))) = .inr (6, fsT ad κ (aN ((sA κ 3 (aN xb)) - 1))) := thc h6_b
    have hk_b := hX.2.2.1 _ hB_b.2
    refine lv_astore_n (lv' := [(3, .ref (ad (100 + 4 * (aN ((sA κ 3 (aN xb)) - 1))))), (0, .ref (ad 5)), (1, .ref (ad ρ)), (2, .int 8)]) hx hb dX7_getFromRow_11 rfl hl (by decide) rfl (fun ls hl => ?_)
    refine lv_aload_n hx hb dX7_getFromRow_12 rfl (lv_at hl 1 rfl) ?_
    refine r_get hC hw rk7 in_X7_getFromRow_7 5 (wXl 5 (by decide)) wXc5 0 (by decide) lk_X7_getFromRow_9 (v := .ref (ad 2)) rfl dX7_getFromRow_13 ?_
    refine lv_aload_n hx hb dX7_getFromRow_16 rfl (lv_at hl 2 rfl) ?_
    refine r_get hC hw rk5 in_X7_getFromRow_5 ρ hst.1 hst.2 3 (by decide) lk_X7_getFromRow_57 (v := .int xc) rfl dX7_getFromRow_17 ?_
    refine r_ki hw (r_runV (rest := []) hC hw 2 (c_X3_getWord l _ _ 2 8 xc (wXl 2 (by decide)) wXc2 (wXl 8 (by decide)) wXc8) rk3 (wXl 2 (by decide)) wXc2 1 gX7_getFromRow_X3_getWord rfl rfl rfl (by decide +kernel) ⟨Nat.le_of_ble_eq_true rfl, Nat.le_of_ble_eq_true rfl⟩ rfl hl.1 rfl (Nat.le_of_ble_eq_true rfl) dX7_getFromRow_20 ⟨Nat.le_of_ble_eq_true rfl, Nat.le_of_ble_eq_true rfl⟩) (fun r_13 u_14 H locs h_12 hw => ?_)
    subst h_12
    refine r_topv (y := .int (sA κ 2 (aN xc))) (congrArg _ (gN_in (by assumption) (by decide))) ?_
    refine lv_istore (lv' := [(4, .int (sA κ 2 (aN xc))), (3, .ref (ad (100 + 4 * (aN ((sA κ 3 (aN xb)) - 1))))), (0, .ref (ad 5)), (1, .ref (ad ρ)), (2, .int 8)]) hx hb dX7_getFromRow_23 hl (by decide) rfl (fun ls hl => ?_)
    refine lv_aload_n hx hb dX7_getFromRow_25 rfl (lv_at hl 1 rfl) ?_
    refine lv_iload_n hx hb dX7_getFromRow_26 rfl (lv_at hl 4 rfl) ?_
    refine r_ki hw (r_runSN (rest := []) hC hw hw.1.2.1 lks_X7_getFromRow lkz_X7_getFromRow_94 (c_X8_misfits_8 l _ _ (100 + 4 * (aN ((sA κ 3 (aN xb)) - 1))) hk_b.1 hl_b hc_b) 2 gX7_getFromRow_X8_misfits_n94 rfl rfl rfl (by decide +kernel) ⟨Nat.le_of_ble_eq_true rfl, Nat.le_of_ble_eq_true rfl⟩ rfl hl.1 rfl (Nat.le_of_ble_eq_true rfl) dX7_getFromRow_27 ⟨Nat.le_of_ble_eq_true rfl, Nat.le_of_ble_eq_true rfl⟩) (fun r_16 u_17 H locs h_15 hw => ?_)
    by_cases c_18 : pOf (sA κ 4 (aN ((sA κ 3 (aN xb)) - 1))) 8
    · rw [if_pos c_18] at h_15
      subst h_15
      have w_19 : ¬ pWrong κ (sA κ 3 (aN xb)) 8 := fun h => h.2 c_18
      refine lv_if_eq (tgt := 35) hx hb dX7_getFromRow_30 (by decide) (fun _ => ?_) (fun c_ => absurd (by decide) c_)
      refine lv_aload_n hx hb dX7_getFromRow_35 rfl (lv_at hl 1 rfl) ?_
      refine lv_ifnonnull (tgt := 41) hx hb dX7_getFromRow_36 (by decide) ?_
      refine lv_aload_n hx hb dX7_getFromRow_41 rfl (lv_at hl 1 rfl) ?_
      refine lv_iload hx hb dX7_getFromRow_42 (lv_at hl 0 rfl) ?_
      refine r_ki hw (r_runV (rest := []) hC hw (100 + 4 * (aN ((sA κ 3 (aN xb)) - 1))) (c_X6_hasPlace l _ _ (100 + 4 * (aN ((sA κ 3 (aN xb)) - 1))) (sA κ 2 (aN xc)) hl_b hc_b) rk6 hl_b hc_b 1 gX7_getFromRow_X6_hasPlace rfl rfl rfl (by decide +kernel) ⟨Nat.le_of_ble_eq_true rfl, Nat.le_of_ble_eq_true rfl⟩ rfl hl.1 rfl (Nat.le_of_ble_eq_true rfl) dX7_getFromRow_44 ⟨Nat.le_of_ble_eq_true rfl, Nat.le_of_ble_eq_true rfl⟩) (fun r_21 u_22 H locs h_20 hw => ?_)
      rw [hp_eq hk_b.2] at h_20
      by_cases c_23 : pIn (sA κ 2 (aN xc)) 0 ((sA κ 5 (aN ((sA κ 3 (aN xb)) - 1))) - 1)
      · rw [if_pos c_23] at h_20
        subst h_20
        have hix := ixN hB_b.1 c_23 hk_b.2
        refine lv_if_ne (tgt := 52) hx hb dX7_getFromRow_47 (by decide) (fun _ => ?_) (fun c_ => absurd c_ (by decide))
        refine lv_iload_n hx hb dX7_getFromRow_52 rfl (lv_at hl 4 rfl) ?_
        refine lv_iconst (v := 4) hx hb dX7_getFromRow_53 (by decide) ?_
        refine lv_icmp_gt (tgt := 78) hx hb dX7_getFromRow_54 (by decide) (fun _ => ?_) (fun c_ => absurd (by decide) c_)
        refine lv_iload_n hx hb dX7_getFromRow_78 rfl (lv_at hl 4 rfl) ?_
        refine lv_iconst (v := 5) hx hb dX7_getFromRow_79 (by decide) ?_
        refine lv_icmp_ne (tgt := 103) hx hb dX7_getFromRow_80 (by decide) (fun _ => ?_) (fun c_ => absurd c_ (by decide))
        refine lv_iload_n hx hb dX7_getFromRow_103 rfl (lv_at hl 4 rfl) ?_
        refine lv_bipush (v := 6) hx hb dX7_getFromRow_104 (by decide) ?_
        refine lv_icmp_ne (tgt := 130) hx hb dX7_getFromRow_106 (by decide) (fun _ => ?_) (fun c_ => absurd c_ (by decide))
        refine lv_iload_n hx hb dX7_getFromRow_130 rfl (lv_at hl 4 rfl) ?_
        refine lv_bipush (v := 7) hx hb dX7_getFromRow_131 (by decide) ?_
        refine lv_icmp_ne (tgt := 156) hx hb dX7_getFromRow_133 (by decide) (fun _ => ?_) (fun c_ => absurd c_ (by decide))
        refine lv_aload_n hx hb dX7_getFromRow_156 rfl (lv_at hl 2 rfl) ?_
        refine r_get hC hw rk7 in_X7_getFromRow_7 5 (wXl 5 (by decide)) wXc5 0 (by decide) lk_X7_getFromRow_9 (v := .ref (ad 2)) rfl dX7_getFromRow_157 ?_
        refine lv_aload_n hx hb dX7_getFromRow_160 rfl (lv_at hl 3 rfl) ?_
        refine r_get hC hw rk5 in_X7_getFromRow_5 ρ hst.1 hst.2 1 (by decide) lk_X7_getFromRow_69 (v := .int xa) rfl dX7_getFromRow_161 ?_
        refine lv_aload_n hx hb dX7_getFromRow_164 rfl (lv_at hl 1 rfl) ?_
        refine lv_iload hx hb dX7_getFromRow_165 (lv_at hl 0 rfl) ?_
        have hkd : 8 ≤ sA κ 4 (aN ((sA κ 3 (aN xb)) - 1)) ∧ sA κ 4 (aN ((sA κ 3 (aN xb)) - 1)) ≤ 10 := kd810 c_18
        refine r_kq hw (r_runV (rest := [.int xa, .ref (ad 2)]) hC hw (100 + 4 * (aN ((sA κ 3 (aN xb)) - 1))) (c_X6_getMember (x3 := .null) l _ _ (100 + 4 * (aN ((sA κ 3 (aN xb)) - 1))) (103 + 4 * (aN ((sA κ 3 (aN xb)) - 1))) (sA κ 2 (aN xc)) hl_b hc_b (thl3 hB_b.2) (thc3 h6_b)) rk6 hl_b hc_b 1 gX7_getFromRow_X6_getMember rfl rfl rfl (by decide +kernel) ⟨Nat.le_of_ble_eq_true rfl, Nat.le_of_ble_eq_true rfl⟩ rfl hl.1 rfl (Nat.le_of_ble_eq_true rfl) dX7_getFromRow_167 ⟨Nat.le_of_ble_eq_true rfl, Nat.le_of_ble_eq_true rfl⟩) (fun r_25 u_26 H locs h_24 hw => ?_)
        rw [getMem hkd hix.2.2 hix.2.1, ← hix.1] at h_24
        subst h_24
        refine r_kv hw (r_runV (rest := []) hC hw 2 (c_X3_setThingQ l _ _ 2 12 xa (rT (sA κ 6 (aN ((12 * ((sA κ 3 (aN xb)) - 1)) + (sA κ 2 (aN xc)))))) (by assumption) (rT_live (by rw [hix.1]; exact hX.2.2.2.2 _ _ hB_b.2 hix.2.1) hX.1) (wXl 2 (by decide)) wXc2 (wXl 12 (by decide)) wXc12) rk3 (wXl 2 (by decide)) wXc2 2 gX7_getFromRow_X3_setThing rfl rfl rfl (by decide +kernel) ⟨Nat.le_of_ble_eq_true rfl, Nat.le_of_ble_eq_true rfl⟩ rfl hl.1 rfl (Nat.le_of_ble_eq_true rfl) dX7_getFromRow_170 ⟨Nat.le_of_ble_eq_true rfl, Nat.le_of_ble_eq_true rfl⟩) (fun u_29 H locs h_27 hw => ?_)
        replace hw := xS_refs (v := sA κ 6 (aN ((12 * ((sA κ 3 (aN xb)) - 1)) + (sA κ 2 (aN xc))))) rfl hw
        refine lv_iconst (v := 0) hx hb dX7_getFromRow_173 (by decide) ?_
        exact r_iret hC hr hlk hw (uA κ 3 (aN xa) (sA κ 6 (aN ((12 * ((sA κ 3 (aN xb)) - 1)) + (sA κ 2 (aN xc)))))) rfl (doR0 (κ := κ) (hd := hd) (th := th) (k := 47) (a := xa) (b := xb) (c := xc) ((if_neg w_19).trans ((if_neg n_4).trans (if_pos c_23)))).symm (Nat.le_of_ble_eq_true rfl) (Nat.le_of_ble_eq_true rfl) dX7_getFromRow_174
      · rw [if_neg c_23] at h_20
        subst h_20
        refine lv_if_ne (tgt := 52) hx hb dX7_getFromRow_47 (by decide) (fun c_ => absurd (by decide) c_) (fun _ => ?_)
        refine lv_iconst (v := 2) hx hb dX7_getFromRow_50 (by decide) ?_
        exact r_iret hC hr hlk hw κ rfl (doRf (κ := κ) (hd := hd) (th := th) (k := 47) (a := xa) (b := xb) (c := xc) ((if_neg w_19).trans ((if_neg n_4).trans (if_neg c_23))) (by decide)).symm (Nat.le_of_ble_eq_true rfl) (Nat.le_of_ble_eq_true rfl) dX7_getFromRow_51
    · rw [if_neg c_18] at h_15
      subst h_15
      have w_30 : pWrong κ (sA κ 3 (aN xb)) 8 := ⟨n_4, c_18⟩
      refine lv_if_eq (tgt := 35) hx hb dX7_getFromRow_30 (by decide) (fun c_ => absurd c_ (by decide)) (fun _ => ?_)
      refine lv_iconst (v := 4) hx hb dX7_getFromRow_33 (by decide) ?_
      exact r_iret hC hr hlk hw κ rfl (doRf (κ := κ) (hd := hd) (th := th) (k := 47) (a := xa) (b := xb) (c := xc) (if_pos w_30) (by decide)).symm (Nat.le_of_ble_eq_true rfl) (Nat.le_of_ble_eq_true rfl) dX7_getFromRow_34

set_option maxHeartbeats 4000000 in
set_option maxRecDepth 100000 in
theorem c_X7_getFromRow_48 (l : Launch) {D : va_G} {q : Nat → ClassId} {ad : Nat → Nat} {κ : KS} {τ : TAU} (sz : Nat) (ρ : Nat) (xa xb xc hd th : Int32) (hst : stepAt q ad κ τ ρ 48 xa xb xc) (hs : okStep 48 xa xb xc)(hX : WFx κ) (hN : nnOp κ 48 xa xb xc) : Met l yX7_getFromRow wsX7_getFromRow (rmz 2 42) (va_Pc [.ref (ad 5), .ref (ad ρ), .int 10] (rPre D q (wX q ad κ τ) sz)) (va_Qi (fun (r : Int32) (u : KS) => (r, u) = doR κ hd th 48 xa xb xc) (fun (u : KS) tt => rPo D (rA (wX q ad κ τ) sz) (wX q ad u τ) tt) (rA (wX q ad κ τ) sz)) 0 0 (rA (wX q ad κ τ) sz) := by
  have hi0 : vp_in xa 8 := hs.1
  have hi1 : vp_in xb 8 := hs.2.1
  have hi2 : vp_in xc 8 := hs.2.2
  refine r_start (cc := cX7_getFromRow) (maxL := 5) (ret := (some .int)) (by decide) rfl (Nat.le_of_ble_eq_true rfl) ?_
  intro p e s m below meth c ls hC hr hlk hnm hsz hw hl
  have hx := hC.1
  have hb := hC.2.1
  have hl : lv_has ls 5 [(0, .ref (ad 5)), (1, .ref (ad ρ)), (2, .int 10)] := hl
  refine lv_aload_n hx hb dX7_getFromRow_0 rfl (lv_at hl 0 rfl) ?_
  refine r_get hC hw rk7 in_X7_getFromRow_7 5 (wXl 5 (by decide)) wXc5 0 (by decide) lk_X7_getFromRow_9 (v := .ref (ad 2)) rfl dX7_getFromRow_1 ?_
  refine lv_aload_n hx hb dX7_getFromRow_4 rfl (lv_at hl 1 rfl) ?_
  refine r_get hC hw rk5 in_X7_getFromRow_5 ρ hst.1 hst.2 2 (by decide) lk_X7_getFromRow_74 (v := .int xb) rfl dX7_getFromRow_5 ?_
  refine r_kq hw (r_runV (rest := []) hC hw 2 (c_X3_getThing l _ _ 2 12 xb (wXl 2 (by decide)) wXc2 (wXl 12 (by decide)) wXc12) rk3 (wXl 2 (by decide)) wXc2 1 gX7_getFromRow_X3_getThing rfl rfl rfl (by decide +kernel) ⟨Nat.le_of_ble_eq_true rfl, Nat.le_of_ble_eq_true rfl⟩ rfl hl.1 rfl (Nat.le_of_ble_eq_true rfl) dX7_getFromRow_8 ⟨Nat.le_of_ble_eq_true rfl, Nat.le_of_ble_eq_true rfl⟩) (fun r_2 u_3 H locs h_1 hw => ?_)
  subst h_1
  by_cases n_4 : (sA κ 3 (aN xb)) = 0
  · refine r_topv (y := .null) (by rw [gN_in (by assumption) (by decide)]; show va_rf ((rT (sA κ 3 (aN xb))).map ad) = _; rw [rT0 n_4]; rfl) ?_
    refine lv_astore_nN (lv' := [(3, .null), (0, .ref (ad 5)), (1, .ref (ad ρ)), (2, .int 10)]) hx hb dX7_getFromRow_11 rfl hl (by decide) rfl (fun ls hl => ?_)
    refine lv_aload_n hx hb dX7_getFromRow_12 rfl (lv_at hl 1 rfl) ?_
    refine r_get hC hw rk7 in_X7_getFromRow_7 5 (wXl 5 (by decide)) wXc5 0 (by decide) lk_X7_getFromRow_9 (v := .ref (ad 2)) rfl dX7_getFromRow_13 ?_
    refine lv_aload_n hx hb dX7_getFromRow_16 rfl (lv_at hl 2 rfl) ?_
    refine r_get hC hw rk5 in_X7_getFromRow_5 ρ hst.1 hst.2 3 (by decide) lk_X7_getFromRow_57 (v := .int xc) rfl dX7_getFromRow_17 ?_
    refine r_ki hw (r_runV (rest := []) hC hw 2 (c_X3_getWord l _ _ 2 8 xc (wXl 2 (by decide)) wXc2 (wXl 8 (by decide)) wXc8) rk3 (wXl 2 (by decide)) wXc2 1 gX7_getFromRow_X3_getWord rfl rfl rfl (by decide +kernel) ⟨Nat.le_of_ble_eq_true rfl, Nat.le_of_ble_eq_true rfl⟩ rfl hl.1 rfl (Nat.le_of_ble_eq_true rfl) dX7_getFromRow_20 ⟨Nat.le_of_ble_eq_true rfl, Nat.le_of_ble_eq_true rfl⟩) (fun r_6 u_7 H locs h_5 hw => ?_)
    subst h_5
    refine r_topv (y := .int (sA κ 2 (aN xc))) (congrArg _ (gN_in (by assumption) (by decide))) ?_
    refine lv_istore (lv' := [(4, .int (sA κ 2 (aN xc))), (3, .null), (0, .ref (ad 5)), (1, .ref (ad ρ)), (2, .int 10)]) hx hb dX7_getFromRow_23 hl (by decide) rfl (fun ls hl => ?_)
    refine lv_aload_nN hx hb dX7_getFromRow_25 rfl (lv_at hl 1 rfl) ?_
    refine lv_iload_n hx hb dX7_getFromRow_26 rfl (lv_at hl 4 rfl) ?_
    refine r_ki hw (r_runSN (rest := []) hC hw hw.1.2.1 lks_X7_getFromRow lkz_X7_getFromRow_94 (c_X8_misfitsN_10 l _ _) 2 gX7_getFromRow_X8_misfits_n94 rfl rfl rfl (by decide +kernel) ⟨Nat.le_of_ble_eq_true rfl, Nat.le_of_ble_eq_true rfl⟩ rfl hl.1 rfl (Nat.le_of_ble_eq_true rfl) dX7_getFromRow_27 ⟨Nat.le_of_ble_eq_true rfl, Nat.le_of_ble_eq_true rfl⟩) (fun r_9 u_10 H locs h_8 hw => ?_)
    subst h_8
    have w_11 : ¬ pWrong κ (sA κ 3 (aN xb)) 10 := fun h => h.1 n_4
    refine lv_if_eq (tgt := 35) hx hb dX7_getFromRow_30 (by decide) (fun _ => ?_) (fun c_ => absurd (by decide) c_)
    refine lv_aload_nN hx hb dX7_getFromRow_35 rfl (lv_at hl 1 rfl) ?_
    refine lv_ifnonnullN hx hb dX7_getFromRow_36 ?_
    refine lv_iconst (v := 1) hx hb dX7_getFromRow_39 (by decide) ?_
    exact r_iret hC hr hlk hw κ rfl (doRf (κ := κ) (hd := hd) (th := th) (k := 48) (a := xa) (b := xb) (c := xc) ((if_neg w_11).trans (if_pos n_4)) (by decide)).symm (Nat.le_of_ble_eq_true rfl) (Nat.le_of_ble_eq_true rfl) dX7_getFromRow_40
  · refine r_topv (y := .ref (ad (100 + 4 * (aN ((sA κ 3 (aN xb)) - 1))))) (by rw [gN_in (by assumption) (by decide)]; show va_rf ((rT (sA κ 3 (aN xb))).map ad) = _; rw [rT1 n_4]; rfl) ?_
    have hB_b := hX.2.1 xb (by assumption) n_4
    have h6_b : (aN ((sA κ 3 (aN xb)) - 1)) < 60 := Nat.lt_of_lt_of_le hB_b.2 hX.1
    have hl_b : (wX q ad κ τ).2.1 (100 + 4 * (aN ((sA κ 3 (aN xb)) - 1))) := thl hB_b.2
    have hc_b : (wX q ad κ τ).2.2 (100 + 4 * (aN ((sA κ 3 (aN xb)) - 1))) = .inr (6, fsT ad κ (aN ((sA κ 3 (aN xb)) - 1))) := thc h6_b
    have hk_b := hX.2.2.1 _ hB_b.2
    refine lv_astore_n (lv' := [(3, .ref (ad (100 + 4 * (aN ((sA κ 3 (aN xb)) - 1))))), (0, .ref (ad 5)), (1, .ref (ad ρ)), (2, .int 10)]) hx hb dX7_getFromRow_11 rfl hl (by decide) rfl (fun ls hl => ?_)
    refine lv_aload_n hx hb dX7_getFromRow_12 rfl (lv_at hl 1 rfl) ?_
    refine r_get hC hw rk7 in_X7_getFromRow_7 5 (wXl 5 (by decide)) wXc5 0 (by decide) lk_X7_getFromRow_9 (v := .ref (ad 2)) rfl dX7_getFromRow_13 ?_
    refine lv_aload_n hx hb dX7_getFromRow_16 rfl (lv_at hl 2 rfl) ?_
    refine r_get hC hw rk5 in_X7_getFromRow_5 ρ hst.1 hst.2 3 (by decide) lk_X7_getFromRow_57 (v := .int xc) rfl dX7_getFromRow_17 ?_
    refine r_ki hw (r_runV (rest := []) hC hw 2 (c_X3_getWord l _ _ 2 8 xc (wXl 2 (by decide)) wXc2 (wXl 8 (by decide)) wXc8) rk3 (wXl 2 (by decide)) wXc2 1 gX7_getFromRow_X3_getWord rfl rfl rfl (by decide +kernel) ⟨Nat.le_of_ble_eq_true rfl, Nat.le_of_ble_eq_true rfl⟩ rfl hl.1 rfl (Nat.le_of_ble_eq_true rfl) dX7_getFromRow_20 ⟨Nat.le_of_ble_eq_true rfl, Nat.le_of_ble_eq_true rfl⟩) (fun r_13 u_14 H locs h_12 hw => ?_)
    subst h_12
    refine r_topv (y := .int (sA κ 2 (aN xc))) (congrArg _ (gN_in (by assumption) (by decide))) ?_
    refine lv_istore (lv' := [(4, .int (sA κ 2 (aN xc))), (3, .ref (ad (100 + 4 * (aN ((sA κ 3 (aN xb)) - 1))))), (0, .ref (ad 5)), (1, .ref (ad ρ)), (2, .int 10)]) hx hb dX7_getFromRow_23 hl (by decide) rfl (fun ls hl => ?_)
    refine lv_aload_n hx hb dX7_getFromRow_25 rfl (lv_at hl 1 rfl) ?_
    refine lv_iload_n hx hb dX7_getFromRow_26 rfl (lv_at hl 4 rfl) ?_
    refine r_ki hw (r_runSN (rest := []) hC hw hw.1.2.1 lks_X7_getFromRow lkz_X7_getFromRow_94 (c_X8_misfits_10 l _ _ (100 + 4 * (aN ((sA κ 3 (aN xb)) - 1))) hk_b.1 hl_b hc_b) 2 gX7_getFromRow_X8_misfits_n94 rfl rfl rfl (by decide +kernel) ⟨Nat.le_of_ble_eq_true rfl, Nat.le_of_ble_eq_true rfl⟩ rfl hl.1 rfl (Nat.le_of_ble_eq_true rfl) dX7_getFromRow_27 ⟨Nat.le_of_ble_eq_true rfl, Nat.le_of_ble_eq_true rfl⟩) (fun r_16 u_17 H locs h_15 hw => ?_)
    by_cases c_18 : pOf (sA κ 4 (aN ((sA κ 3 (aN xb)) - 1))) 10
    · rw [if_pos c_18] at h_15
      subst h_15
      have w_19 : ¬ pWrong κ (sA κ 3 (aN xb)) 10 := fun h => h.2 c_18
      refine lv_if_eq (tgt := 35) hx hb dX7_getFromRow_30 (by decide) (fun _ => ?_) (fun c_ => absurd (by decide) c_)
      refine lv_aload_n hx hb dX7_getFromRow_35 rfl (lv_at hl 1 rfl) ?_
      refine lv_ifnonnull (tgt := 41) hx hb dX7_getFromRow_36 (by decide) ?_
      refine lv_aload_n hx hb dX7_getFromRow_41 rfl (lv_at hl 1 rfl) ?_
      refine lv_iload hx hb dX7_getFromRow_42 (lv_at hl 0 rfl) ?_
      refine r_ki hw (r_runV (rest := []) hC hw (100 + 4 * (aN ((sA κ 3 (aN xb)) - 1))) (c_X6_hasPlace l _ _ (100 + 4 * (aN ((sA κ 3 (aN xb)) - 1))) (sA κ 2 (aN xc)) hl_b hc_b) rk6 hl_b hc_b 1 gX7_getFromRow_X6_hasPlace rfl rfl rfl (by decide +kernel) ⟨Nat.le_of_ble_eq_true rfl, Nat.le_of_ble_eq_true rfl⟩ rfl hl.1 rfl (Nat.le_of_ble_eq_true rfl) dX7_getFromRow_44 ⟨Nat.le_of_ble_eq_true rfl, Nat.le_of_ble_eq_true rfl⟩) (fun r_21 u_22 H locs h_20 hw => ?_)
      rw [hp_eq hk_b.2] at h_20
      by_cases c_23 : pIn (sA κ 2 (aN xc)) 0 ((sA κ 5 (aN ((sA κ 3 (aN xb)) - 1))) - 1)
      · rw [if_pos c_23] at h_20
        subst h_20
        have hix := ixN hB_b.1 c_23 hk_b.2
        refine lv_if_ne (tgt := 52) hx hb dX7_getFromRow_47 (by decide) (fun _ => ?_) (fun c_ => absurd c_ (by decide))
        refine lv_iload_n hx hb dX7_getFromRow_52 rfl (lv_at hl 4 rfl) ?_
        refine lv_iconst (v := 4) hx hb dX7_getFromRow_53 (by decide) ?_
        refine lv_icmp_gt (tgt := 78) hx hb dX7_getFromRow_54 (by decide) (fun _ => ?_) (fun c_ => absurd (by decide) c_)
        refine lv_iload_n hx hb dX7_getFromRow_78 rfl (lv_at hl 4 rfl) ?_
        refine lv_iconst (v := 5) hx hb dX7_getFromRow_79 (by decide) ?_
        refine lv_icmp_ne (tgt := 103) hx hb dX7_getFromRow_80 (by decide) (fun _ => ?_) (fun c_ => absurd c_ (by decide))
        refine lv_iload_n hx hb dX7_getFromRow_103 rfl (lv_at hl 4 rfl) ?_
        refine lv_bipush (v := 6) hx hb dX7_getFromRow_104 (by decide) ?_
        refine lv_icmp_ne (tgt := 130) hx hb dX7_getFromRow_106 (by decide) (fun _ => ?_) (fun c_ => absurd c_ (by decide))
        refine lv_iload_n hx hb dX7_getFromRow_130 rfl (lv_at hl 4 rfl) ?_
        refine lv_bipush (v := 7) hx hb dX7_getFromRow_131 (by decide) ?_
        refine lv_icmp_ne (tgt := 156) hx hb dX7_getFromRow_133 (by decide) (fun _ => ?_) (fun c_ => absurd c_ (by decide))
        refine lv_aload_n hx hb dX7_getFromRow_156 rfl (lv_at hl 2 rfl) ?_
        refine r_get hC hw rk7 in_X7_getFromRow_7 5 (wXl 5 (by decide)) wXc5 0 (by decide) lk_X7_getFromRow_9 (v := .ref (ad 2)) rfl dX7_getFromRow_157 ?_
        refine lv_aload_n hx hb dX7_getFromRow_160 rfl (lv_at hl 3 rfl) ?_
        refine r_get hC hw rk5 in_X7_getFromRow_5 ρ hst.1 hst.2 1 (by decide) lk_X7_getFromRow_69 (v := .int xa) rfl dX7_getFromRow_161 ?_
        refine lv_aload_n hx hb dX7_getFromRow_164 rfl (lv_at hl 1 rfl) ?_
        refine lv_iload hx hb dX7_getFromRow_165 (lv_at hl 0 rfl) ?_
        have hkd : 8 ≤ sA κ 4 (aN ((sA κ 3 (aN xb)) - 1)) ∧ sA κ 4 (aN ((sA κ 3 (aN xb)) - 1)) ≤ 10 := kd810 c_18
        refine r_kq hw (r_runV (rest := [.int xa, .ref (ad 2)]) hC hw (100 + 4 * (aN ((sA κ 3 (aN xb)) - 1))) (c_X6_getMember (x3 := .null) l _ _ (100 + 4 * (aN ((sA κ 3 (aN xb)) - 1))) (103 + 4 * (aN ((sA κ 3 (aN xb)) - 1))) (sA κ 2 (aN xc)) hl_b hc_b (thl3 hB_b.2) (thc3 h6_b)) rk6 hl_b hc_b 1 gX7_getFromRow_X6_getMember rfl rfl rfl (by decide +kernel) ⟨Nat.le_of_ble_eq_true rfl, Nat.le_of_ble_eq_true rfl⟩ rfl hl.1 rfl (Nat.le_of_ble_eq_true rfl) dX7_getFromRow_167 ⟨Nat.le_of_ble_eq_true rfl, Nat.le_of_ble_eq_true rfl⟩) (fun r_25 u_26 H locs h_24 hw => ?_)
        rw [getMem hkd hix.2.2 hix.2.1, ← hix.1] at h_24
        subst h_24
        refine r_kv hw (r_runV (rest := []) hC hw 2 (c_X3_setThingQ l _ _ 2 12 xa (rT (sA κ 6 (aN ((12 * ((sA κ 3 (aN xb)) - 1)) + (sA κ 2 (aN xc)))))) (by assumption) (rT_live (by rw [hix.1]; exact hX.2.2.2.2 _ _ hB_b.2 hix.2.1) hX.1) (wXl 2 (by decide)) wXc2 (wXl 12 (by decide)) wXc12) rk3 (wXl 2 (by decide)) wXc2 2 gX7_getFromRow_X3_setThing rfl rfl rfl (by decide +kernel) ⟨Nat.le_of_ble_eq_true rfl, Nat.le_of_ble_eq_true rfl⟩ rfl hl.1 rfl (Nat.le_of_ble_eq_true rfl) dX7_getFromRow_170 ⟨Nat.le_of_ble_eq_true rfl, Nat.le_of_ble_eq_true rfl⟩) (fun u_29 H locs h_27 hw => ?_)
        replace hw := xS_refs (v := sA κ 6 (aN ((12 * ((sA κ 3 (aN xb)) - 1)) + (sA κ 2 (aN xc))))) rfl hw
        refine lv_iconst (v := 0) hx hb dX7_getFromRow_173 (by decide) ?_
        exact r_iret hC hr hlk hw (uA κ 3 (aN xa) (sA κ 6 (aN ((12 * ((sA κ 3 (aN xb)) - 1)) + (sA κ 2 (aN xc)))))) rfl (doR0 (κ := κ) (hd := hd) (th := th) (k := 48) (a := xa) (b := xb) (c := xc) ((if_neg w_19).trans ((if_neg n_4).trans (if_pos c_23)))).symm (Nat.le_of_ble_eq_true rfl) (Nat.le_of_ble_eq_true rfl) dX7_getFromRow_174
      · rw [if_neg c_23] at h_20
        subst h_20
        refine lv_if_ne (tgt := 52) hx hb dX7_getFromRow_47 (by decide) (fun c_ => absurd (by decide) c_) (fun _ => ?_)
        refine lv_iconst (v := 2) hx hb dX7_getFromRow_50 (by decide) ?_
        exact r_iret hC hr hlk hw κ rfl (doRf (κ := κ) (hd := hd) (th := th) (k := 48) (a := xa) (b := xb) (c := xc) ((if_neg w_19).trans ((if_neg n_4).trans (if_neg c_23))) (by decide)).symm (Nat.le_of_ble_eq_true rfl) (Nat.le_of_ble_eq_true rfl) dX7_getFromRow_51
    · rw [if_neg c_18] at h_15
      subst h_15
      have w_30 : pWrong κ (sA κ 3 (aN xb)) 10 := ⟨n_4, c_18⟩
      refine lv_if_eq (tgt := 35) hx hb dX7_getFromRow_30 (by decide) (fun c_ => absurd c_ (by decide)) (fun _ => ?_)
      refine lv_iconst (v := 4) hx hb dX7_getFromRow_33 (by decide) ?_
      exact r_iret hC hr hlk hw κ rfl (doRf (κ := κ) (hd := hd) (th := th) (k := 48) (a := xa) (b := xb) (c := xc) (if_pos w_30) (by decide)).symm (Nat.le_of_ble_eq_true rfl) (Nat.le_of_ble_eq_true rfl) dX7_getFromRow_34

theorem k11 {o : Int32} (h : pOf o 11) (h2 : ¬ pOf o 12) : o = 11 := by
  simp [pOf] at h h2
  rcases h with h | h | h
  · exact h
  · exact absurd h h2.1
  · exact absurd h h2.2
theorem and16 (x : Int32) : (x.toUInt32 % 65536).toInt32 = x &&& 65535 := by
  rw [pk_char, pk_and x 16 (m := 65535) (by decide)]
set_option maxHeartbeats 4000000 in
set_option maxRecDepth 100000 in
theorem c_X7_putIntoRow_49 (l : Launch) {D : va_G} {q : Nat → ClassId} {ad : Nat → Nat} {κ : KS} {τ : TAU} (sz : Nat) (ρ : Nat) (xa xb xc hd th : Int32) (hst : stepAt q ad κ τ ρ 49 xa xb xc) (hs : okStep 49 xa xb xc)(hX : WFx κ) (hN : nnOp κ 49 xa xb xc) : Met l yX7_putIntoRow wsX7_putIntoRow (rmz 2 42) (va_Pc [.ref (ad 5), .ref (ad ρ), .int 0] (rPre D q (wX q ad κ τ) sz)) (va_Qi (fun (r : Int32) (u : KS) => (r, u) = doR κ hd th 49 xa xb xc) (fun (u : KS) tt => rPo D (rA (wX q ad κ τ) sz) (wX q ad u τ) tt) (rA (wX q ad κ τ) sz)) 0 0 (rA (wX q ad κ τ) sz) := by
  have hi0 : vp_in xa 8 := hs.1
  have hi1 : vp_in xb 8 := hs.2.1
  have hi2 : vp_in xc 8 := hs.2.2
  refine r_start (cc := cX7_putIntoRow) (maxL := 6) (ret := (some .int)) (by decide) rfl (Nat.le_of_ble_eq_true rfl) ?_
  intro p e s m below meth c ls hC hr hlk hnm hsz hw hl
  have hx := hC.1
  have hb := hC.2.1
  have hl : lv_has ls 6 [(0, .ref (ad 5)), (1, .ref (ad ρ)), (2, .int 0)] := hl
  refine lv_aload_n hx hb dX7_putIntoRow_0 rfl (lv_at hl 0 rfl) ?_
  refine r_get hC hw rk7 in_X7_putIntoRow_7 5 (wXl 5 (by decide)) wXc5 0 (by decide) lk_X7_putIntoRow_9 (v := .ref (ad 2)) rfl dX7_putIntoRow_1 ?_
  refine lv_aload_n hx hb dX7_putIntoRow_4 rfl (lv_at hl 1 rfl) ?_
  refine r_get hC hw rk5 in_X7_putIntoRow_5 ρ hst.1 hst.2 2 (by decide) lk_X7_putIntoRow_74 (v := .int xb) rfl dX7_putIntoRow_5 ?_
  refine r_kq hw (r_runV (rest := []) hC hw 2 (c_X3_getThing l _ _ 2 12 xb (wXl 2 (by decide)) wXc2 (wXl 12 (by decide)) wXc12) rk3 (wXl 2 (by decide)) wXc2 1 gX7_putIntoRow_X3_getThing rfl rfl rfl (by decide +kernel) ⟨Nat.le_of_ble_eq_true rfl, Nat.le_of_ble_eq_true rfl⟩ rfl hl.1 rfl (Nat.le_of_ble_eq_true rfl) dX7_putIntoRow_8 ⟨Nat.le_of_ble_eq_true rfl, Nat.le_of_ble_eq_true rfl⟩) (fun r_2 u_3 H locs h_1 hw => ?_)
  subst h_1
  by_cases n_4 : (sA κ 3 (aN xb)) = 0
  · refine r_topv (y := .null) (by rw [gN_in (by assumption) (by decide)]; show va_rf ((rT (sA κ 3 (aN xb))).map ad) = _; rw [rT0 n_4]; rfl) ?_
    refine lv_astore_nN (lv' := [(3, .null), (0, .ref (ad 5)), (1, .ref (ad ρ)), (2, .int 0)]) hx hb dX7_putIntoRow_11 rfl hl (by decide) rfl (fun ls hl => ?_)
    refine lv_iload_n hx hb dX7_putIntoRow_12 rfl (lv_at hl 3 rfl) ?_
    refine lv_bipush (v := 8) hx hb dX7_putIntoRow_13 (by decide) ?_
    refine lv_icmp_lt (tgt := 32) hx hb dX7_putIntoRow_15 (by decide) (fun _ => ?_) (fun c_ => absurd (by decide) c_)
    refine lv_null hx hb dX7_putIntoRow_32 ?_
    refine lv_astoreN (lv' := [(4, .null), (3, .null), (0, .ref (ad 5)), (1, .ref (ad ρ)), (2, .int 0)]) hx hb dX7_putIntoRow_33 hl (by decide) rfl (fun ls hl => ?_)
    refine lv_aload_n hx hb dX7_putIntoRow_35 rfl (lv_at hl 2 rfl) ?_
    refine r_get hC hw rk7 in_X7_putIntoRow_7 5 (wXl 5 (by decide)) wXc5 0 (by decide) lk_X7_putIntoRow_9 (v := .ref (ad 2)) rfl dX7_putIntoRow_36 ?_
    refine lv_aload_n hx hb dX7_putIntoRow_39 rfl (lv_at hl 3 rfl) ?_
    refine r_get hC hw rk5 in_X7_putIntoRow_5 ρ hst.1 hst.2 3 (by decide) lk_X7_putIntoRow_57 (v := .int xc) rfl dX7_putIntoRow_40 ?_
    refine r_ki hw (r_runV (rest := []) hC hw 2 (c_X3_getWord l _ _ 2 8 xc (wXl 2 (by decide)) wXc2 (wXl 8 (by decide)) wXc8) rk3 (wXl 2 (by decide)) wXc2 1 gX7_putIntoRow_X3_getWord rfl rfl rfl (by decide +kernel) ⟨Nat.le_of_ble_eq_true rfl, Nat.le_of_ble_eq_true rfl⟩ rfl hl.1 rfl (Nat.le_of_ble_eq_true rfl) dX7_putIntoRow_43 ⟨Nat.le_of_ble_eq_true rfl, Nat.le_of_ble_eq_true rfl⟩) (fun r_6 u_7 H locs h_5 hw => ?_)
    subst h_5
    refine r_topv (y := .int (sA κ 2 (aN xc))) (congrArg _ (gN_in (by assumption) (by decide))) ?_
    refine lv_istore (lv' := [(5, .int (sA κ 2 (aN xc))), (4, .null), (3, .null), (0, .ref (ad 5)), (1, .ref (ad ρ)), (2, .int 0)]) hx hb dX7_putIntoRow_46 hl (by decide) rfl (fun ls hl => ?_)
    refine lv_aload_nN hx hb dX7_putIntoRow_48 rfl (lv_at hl 2 rfl) ?_
    refine lv_iload_n hx hb dX7_putIntoRow_49 rfl (lv_at hl 5 rfl) ?_
    refine r_ki hw (r_runSN (rest := []) hC hw hw.1.2.1 lks_X7_putIntoRow lkz_X7_putIntoRow_94 (c_X8_misfitsN_0 l _ _) 2 gX7_putIntoRow_X8_misfits_n94 rfl rfl rfl (by decide +kernel) ⟨Nat.le_of_ble_eq_true rfl, Nat.le_of_ble_eq_true rfl⟩ rfl hl.1 rfl (Nat.le_of_ble_eq_true rfl) dX7_putIntoRow_50 ⟨Nat.le_of_ble_eq_true rfl, Nat.le_of_ble_eq_true rfl⟩) (fun r_9 u_10 H locs h_8 hw => ?_)
    subst h_8
    have w_11 : ¬ pWrong κ (sA κ 3 (aN xb)) 0 := fun h => h.1 n_4
    refine lv_if_ne (tgt := 76) hx hb dX7_putIntoRow_53 (by decide) (fun c_ => absurd (by decide) c_) (fun _ => ?_)
    refine lv_aloadN hx hb dX7_putIntoRow_56 (lv_at hl 1 rfl) ?_
    refine lv_iload_n hx hb dX7_putIntoRow_58 rfl (lv_at hl 5 rfl) ?_
    refine lv_bipush (v := 10) hx hb dX7_putIntoRow_59 (by decide) ?_
    refine lv_icmp_ne (tgt := 68) hx hb dX7_putIntoRow_61 (by decide) (fun _ => ?_) (fun c_ => absurd c_ (by decide))
    refine lv_bipush (v := 11) hx hb dX7_putIntoRow_68 (by decide) ?_
    refine r_ki hw (r_runSN (rest := []) hC hw hw.1.2.1 lks_X7_putIntoRow lkz_X7_putIntoRow_94 (c_X8_misfitsN_11 l _ _) 2 gX7_putIntoRow_X8_misfits_n94 rfl rfl rfl (by decide +kernel) ⟨Nat.le_of_ble_eq_true rfl, Nat.le_of_ble_eq_true rfl⟩ rfl hl.1 rfl (Nat.le_of_ble_eq_true rfl) dX7_putIntoRow_70 ⟨Nat.le_of_ble_eq_true rfl, Nat.le_of_ble_eq_true rfl⟩) (fun r_13 u_14 H locs h_12 hw => ?_)
    subst h_12
    refine lv_if_eq (tgt := 78) hx hb dX7_putIntoRow_73 (by decide) (fun _ => ?_) (fun c_ => absurd (by decide) c_)
    refine lv_aload_nN hx hb dX7_putIntoRow_78 rfl (lv_at hl 2 rfl) ?_
    refine lv_ifnonnullN hx hb dX7_putIntoRow_79 ?_
    refine lv_iconst (v := 1) hx hb dX7_putIntoRow_82 (by decide) ?_
    exact r_iret hC hr hlk hw κ rfl (doRf (κ := κ) (hd := hd) (th := th) (k := 49) (a := xa) (b := xb) (c := xc) ((if_neg w_11).trans (if_pos n_4)) (by decide)).symm (Nat.le_of_ble_eq_true rfl) (Nat.le_of_ble_eq_true rfl) dX7_putIntoRow_83
  · refine r_topv (y := .ref (ad (100 + 4 * (aN ((sA κ 3 (aN xb)) - 1))))) (by rw [gN_in (by assumption) (by decide)]; show va_rf ((rT (sA κ 3 (aN xb))).map ad) = _; rw [rT1 n_4]; rfl) ?_
    have hB_b := hX.2.1 xb (by assumption) n_4
    have h6_b : (aN ((sA κ 3 (aN xb)) - 1)) < 60 := Nat.lt_of_lt_of_le hB_b.2 hX.1
    have hl_b : (wX q ad κ τ).2.1 (100 + 4 * (aN ((sA κ 3 (aN xb)) - 1))) := thl hB_b.2
    have hc_b : (wX q ad κ τ).2.2 (100 + 4 * (aN ((sA κ 3 (aN xb)) - 1))) = .inr (6, fsT ad κ (aN ((sA κ 3 (aN xb)) - 1))) := thc h6_b
    have hk_b := hX.2.2.1 _ hB_b.2
    refine lv_astore_n (lv' := [(3, .ref (ad (100 + 4 * (aN ((sA κ 3 (aN xb)) - 1))))), (0, .ref (ad 5)), (1, .ref (ad ρ)), (2, .int 0)]) hx hb dX7_putIntoRow_11 rfl hl (by decide) rfl (fun ls hl => ?_)
    refine lv_iload_n hx hb dX7_putIntoRow_12 rfl (lv_at hl 3 rfl) ?_
    refine lv_bipush (v := 8) hx hb dX7_putIntoRow_13 (by decide) ?_
    refine lv_icmp_lt (tgt := 32) hx hb dX7_putIntoRow_15 (by decide) (fun _ => ?_) (fun c_ => absurd (by decide) c_)
    refine lv_null hx hb dX7_putIntoRow_32 ?_
    refine lv_astoreN (lv' := [(4, .null), (3, .ref (ad (100 + 4 * (aN ((sA κ 3 (aN xb)) - 1))))), (0, .ref (ad 5)), (1, .ref (ad ρ)), (2, .int 0)]) hx hb dX7_putIntoRow_33 hl (by decide) rfl (fun ls hl => ?_)
    refine lv_aload_n hx hb dX7_putIntoRow_35 rfl (lv_at hl 2 rfl) ?_
    refine r_get hC hw rk7 in_X7_putIntoRow_7 5 (wXl 5 (by decide)) wXc5 0 (by decide) lk_X7_putIntoRow_9 (v := .ref (ad 2)) rfl dX7_putIntoRow_36 ?_
    refine lv_aload_n hx hb dX7_putIntoRow_39 rfl (lv_at hl 3 rfl) ?_
    refine r_get hC hw rk5 in_X7_putIntoRow_5 ρ hst.1 hst.2 3 (by decide) lk_X7_putIntoRow_57 (v := .int xc) rfl dX7_putIntoRow_40 ?_
    refine r_ki hw (r_runV (rest := []) hC hw 2 (c_X3_getWord l _ _ 2 8 xc (wXl 2 (by decide)) wXc2 (wXl 8 (by decide)) wXc8) rk3 (wXl 2 (by decide)) wXc2 1 gX7_putIntoRow_X3_getWord rfl rfl rfl (by decide +kernel) ⟨Nat.le_of_ble_eq_true rfl, Nat.le_of_ble_eq_true rfl⟩ rfl hl.1 rfl (Nat.le_of_ble_eq_true rfl) dX7_putIntoRow_43 ⟨Nat.le_of_ble_eq_true rfl, Nat.le_of_ble_eq_true rfl⟩) (fun r_17 u_18 H locs h_16 hw => ?_)
    subst h_16
    refine r_topv (y := .int (sA κ 2 (aN xc))) (congrArg _ (gN_in (by assumption) (by decide))) ?_
    refine lv_istore (lv' := [(5, .int (sA κ 2 (aN xc))), (4, .null), (3, .ref (ad (100 + 4 * (aN ((sA κ 3 (aN xb)) - 1))))), (0, .ref (ad 5)), (1, .ref (ad ρ)), (2, .int 0)]) hx hb dX7_putIntoRow_46 hl (by decide) rfl (fun ls hl => ?_)
    refine lv_aload_n hx hb dX7_putIntoRow_48 rfl (lv_at hl 2 rfl) ?_
    refine lv_iload_n hx hb dX7_putIntoRow_49 rfl (lv_at hl 5 rfl) ?_
    refine r_ki hw (r_runSN (rest := []) hC hw hw.1.2.1 lks_X7_putIntoRow lkz_X7_putIntoRow_94 (c_X8_misfits_0 l _ _ (100 + 4 * (aN ((sA κ 3 (aN xb)) - 1))) hk_b.1 hl_b hc_b) 2 gX7_putIntoRow_X8_misfits_n94 rfl rfl rfl (by decide +kernel) ⟨Nat.le_of_ble_eq_true rfl, Nat.le_of_ble_eq_true rfl⟩ rfl hl.1 rfl (Nat.le_of_ble_eq_true rfl) dX7_putIntoRow_50 ⟨Nat.le_of_ble_eq_true rfl, Nat.le_of_ble_eq_true rfl⟩) (fun r_20 u_21 H locs h_19 hw => ?_)
    by_cases c_22 : pOf (sA κ 4 (aN ((sA κ 3 (aN xb)) - 1))) 0
    · rw [if_pos c_22] at h_19
      subst h_19
      have w_23 : ¬ pWrong κ (sA κ 3 (aN xb)) 0 := fun h => h.2 c_22
      refine lv_if_ne (tgt := 76) hx hb dX7_putIntoRow_53 (by decide) (fun c_ => absurd (by decide) c_) (fun _ => ?_)
      refine lv_aloadN hx hb dX7_putIntoRow_56 (lv_at hl 1 rfl) ?_
      refine lv_iload_n hx hb dX7_putIntoRow_58 rfl (lv_at hl 5 rfl) ?_
      refine lv_bipush (v := 10) hx hb dX7_putIntoRow_59 (by decide) ?_
      refine lv_icmp_ne (tgt := 68) hx hb dX7_putIntoRow_61 (by decide) (fun _ => ?_) (fun c_ => absurd c_ (by decide))
      refine lv_bipush (v := 11) hx hb dX7_putIntoRow_68 (by decide) ?_
      refine r_ki hw (r_runSN (rest := []) hC hw hw.1.2.1 lks_X7_putIntoRow lkz_X7_putIntoRow_94 (c_X8_misfitsN_11 l _ _) 2 gX7_putIntoRow_X8_misfits_n94 rfl rfl rfl (by decide +kernel) ⟨Nat.le_of_ble_eq_true rfl, Nat.le_of_ble_eq_true rfl⟩ rfl hl.1 rfl (Nat.le_of_ble_eq_true rfl) dX7_putIntoRow_70 ⟨Nat.le_of_ble_eq_true rfl, Nat.le_of_ble_eq_true rfl⟩) (fun r_25 u_26 H locs h_24 hw => ?_)
      subst h_24
      refine lv_if_eq (tgt := 78) hx hb dX7_putIntoRow_73 (by decide) (fun _ => ?_) (fun c_ => absurd (by decide) c_)
      refine lv_aload_n hx hb dX7_putIntoRow_78 rfl (lv_at hl 2 rfl) ?_
      refine lv_ifnonnull (tgt := 84) hx hb dX7_putIntoRow_79 (by decide) ?_
      refine lv_aload_n hx hb dX7_putIntoRow_84 rfl (lv_at hl 2 rfl) ?_
      refine lv_iload hx hb dX7_putIntoRow_85 (lv_at hl 0 rfl) ?_
      refine r_ki hw (r_runV (rest := []) hC hw (100 + 4 * (aN ((sA κ 3 (aN xb)) - 1))) (c_X6_hasPlace l _ _ (100 + 4 * (aN ((sA κ 3 (aN xb)) - 1))) (sA κ 2 (aN xc)) hl_b hc_b) rk6 hl_b hc_b 1 gX7_putIntoRow_X6_hasPlace rfl rfl rfl (by decide +kernel) ⟨Nat.le_of_ble_eq_true rfl, Nat.le_of_ble_eq_true rfl⟩ rfl hl.1 rfl (Nat.le_of_ble_eq_true rfl) dX7_putIntoRow_87 ⟨Nat.le_of_ble_eq_true rfl, Nat.le_of_ble_eq_true rfl⟩) (fun r_29 u_30 H locs h_28 hw => ?_)
      rw [hp_eq hk_b.2] at h_28
      by_cases c_31 : pIn (sA κ 2 (aN xc)) 0 ((sA κ 5 (aN ((sA κ 3 (aN xb)) - 1))) - 1)
      · rw [if_pos c_31] at h_28
        subst h_28
        have hix := ixN hB_b.1 c_31 hk_b.2
        refine lv_if_ne (tgt := 95) hx hb dX7_putIntoRow_90 (by decide) (fun _ => ?_) (fun c_ => absurd c_ (by decide))
        refine lv_aload_n hx hb dX7_putIntoRow_95 rfl (lv_at hl 2 rfl) ?_
        refine r_get hC hw rk6 in_X7_putIntoRow_6 (100 + 4 * (aN ((sA κ 3 (aN xb)) - 1))) hl_b hc_b 0 (by decide) lk_X7_putIntoRow_145 (v := .int (sA κ 4 (aN ((sA κ 3 (aN xb)) - 1)))) rfl dX7_putIntoRow_96 ?_
        refine lv_bipush (v := 9) hx hb dX7_putIntoRow_99 (by decide) ?_
        refine lv_icmp_ne (tgt := 116) hx hb dX7_putIntoRow_101 (by decide) (fun _ => ?_) (fun c_ => absurd c_ (fun h => by rw [h] at c_22; exact absurd c_22 (by decide)))
        refine lv_iload_n hx hb dX7_putIntoRow_116 rfl (lv_at hl 5 rfl) ?_
        refine lv_iconst (v := 4) hx hb dX7_putIntoRow_117 (by decide) ?_
        refine lv_icmp_gt (tgt := 146) hx hb dX7_putIntoRow_118 (by decide) (fun c_ => absurd c_ (by decide)) (fun _ => ?_)
        refine lv_aload_n hx hb dX7_putIntoRow_121 rfl (lv_at hl 2 rfl) ?_
        refine lv_iload hx hb dX7_putIntoRow_122 (lv_at hl 0 rfl) ?_
        refine lv_iload_n hx hb dX7_putIntoRow_124 rfl (lv_at hl 5 rfl) ?_
        refine lv_aload_n hx hb dX7_putIntoRow_125 rfl (lv_at hl 3 rfl) ?_
        refine r_get hC hw rk7 in_X7_putIntoRow_7 5 (wXl 5 (by decide)) wXc5 0 (by decide) lk_X7_putIntoRow_9 (v := .ref (ad 2)) rfl dX7_putIntoRow_126 ?_
        refine lv_aload_n hx hb dX7_putIntoRow_129 rfl (lv_at hl 4 rfl) ?_
        refine r_get hC hw rk5 in_X7_putIntoRow_5 ρ hst.1 hst.2 1 (by decide) lk_X7_putIntoRow_69 (v := .int xa) rfl dX7_putIntoRow_130 ?_
        refine r_ki hw (r_runV (rest := [.int 0, .int (sA κ 2 (aN xc)), .ref (ad (100 + 4 * (aN ((sA κ 3 (aN xb)) - 1))))]) hC hw 2 (c_X3_getWord l _ _ 2 8 xa (wXl 2 (by decide)) wXc2 (wXl 8 (by decide)) wXc8) rk3 (wXl 2 (by decide)) wXc2 1 gX7_putIntoRow_X3_getWord rfl rfl rfl (by decide +kernel) ⟨Nat.le_of_ble_eq_true rfl, Nat.le_of_ble_eq_true rfl⟩ rfl hl.1 rfl (Nat.le_of_ble_eq_true rfl) dX7_putIntoRow_133 ⟨Nat.le_of_ble_eq_true rfl, Nat.le_of_ble_eq_true rfl⟩) (fun r_33 u_34 H locs h_32 hw => ?_)
        subst h_32
        refine r_topv (y := .int (sA κ 2 (aN xa))) (congrArg _ (gN_in (by assumption) (by decide))) ?_
        refine r_ki hw (r_runS (rest := [.int (sA κ 2 (aN xc)), .ref (ad (100 + 4 * (aN ((sA κ 3 (aN xb)) - 1))))]) hC hw (c_X7_narrow_0 l _ _ (sA κ 2 (aN xa))) 2 gX7_putIntoRow_X7_narrow rfl rfl rfl (by decide +kernel) ⟨Nat.le_of_ble_eq_true rfl, Nat.le_of_ble_eq_true rfl⟩ rfl hl.1 rfl (Nat.le_of_ble_eq_true rfl) dX7_putIntoRow_136 ⟨Nat.le_of_ble_eq_true rfl, Nat.le_of_ble_eq_true rfl⟩) (fun r_36 u_37 H locs h_35 hw => ?_)
        subst h_35
        refine lv_i2l (v := ((sA κ 2 (aN xa)) &&& 1).toInt64) hx hb dX7_putIntoRow_139 rfl ?_
        have hkd : sA κ 4 (aN ((sA κ 3 (aN xb)) - 1)) ≤ 5 := kd5 c_22
        refine r_kv hw (r_runV (rest := []) hC hw (100 + 4 * (aN ((sA κ 3 (aN xb)) - 1))) (c_X6_setNumber (x1 := .null) l _ _ (100 + 4 * (aN ((sA κ 3 (aN xb)) - 1))) (101 + 4 * (aN ((sA κ 3 (aN xb)) - 1))) (sA κ 2 (aN xc)) (((sA κ 2 (aN xa)) &&& 1).toInt64) (lnN_in hkd hix.2.2) (lnN_31 hk_b.2) hl_b hc_b (thl1 hB_b.2) (thc1 h6_b)) rk6 hl_b hc_b 2 gX7_putIntoRow_X6_setNumber rfl rfl rfl (by decide +kernel) ⟨Nat.le_of_ble_eq_true rfl, Nat.le_of_ble_eq_true rfl⟩ rfl hl.1 rfl (Nat.le_of_ble_eq_true rfl) dX7_putIntoRow_140 ⟨Nat.le_of_ble_eq_true rfl, Nat.le_of_ble_eq_true rfl⟩) (fun u_40 H locs h_38 hw => ?_)
        replace hw := xT_num h6_b hix.2.1 hw
        rw [← hix.1] at hw
        refine lv_goto (tgt := 232) hx hb dX7_putIntoRow_143 (by decide) ?_
        refine lv_iconst (v := 0) hx hb dX7_putIntoRow_232 (by decide) ?_
        exact r_iret hC hr hlk hw (uJ κ 1 (aN ((12 * ((sA κ 3 (aN xb)) - 1)) + (sA κ 2 (aN xc)))) (((sA κ 2 (aN xa)) &&& 1).toInt64)) rfl (doR0 (κ := κ) (hd := hd) (th := th) (k := 49) (a := xa) (b := xb) (c := xc) ((if_neg w_23).trans ((if_neg n_4).trans (if_pos c_31)))).symm (Nat.le_of_ble_eq_true rfl) (Nat.le_of_ble_eq_true rfl) dX7_putIntoRow_233
      · rw [if_neg c_31] at h_28
        subst h_28
        refine lv_if_ne (tgt := 95) hx hb dX7_putIntoRow_90 (by decide) (fun c_ => absurd (by decide) c_) (fun _ => ?_)
        refine lv_iconst (v := 2) hx hb dX7_putIntoRow_93 (by decide) ?_
        exact r_iret hC hr hlk hw κ rfl (doRf (κ := κ) (hd := hd) (th := th) (k := 49) (a := xa) (b := xb) (c := xc) ((if_neg w_23).trans ((if_neg n_4).trans (if_neg c_31))) (by decide)).symm (Nat.le_of_ble_eq_true rfl) (Nat.le_of_ble_eq_true rfl) dX7_putIntoRow_94
    · rw [if_neg c_22] at h_19
      subst h_19
      have w_41 : pWrong κ (sA κ 3 (aN xb)) 0 := ⟨n_4, c_22⟩
      refine lv_if_ne (tgt := 76) hx hb dX7_putIntoRow_53 (by decide) (fun _ => ?_) (fun c_ => absurd c_ (by decide))
      refine lv_iconst (v := 4) hx hb dX7_putIntoRow_76 (by decide) ?_
      exact r_iret hC hr hlk hw κ rfl (doRf (κ := κ) (hd := hd) (th := th) (k := 49) (a := xa) (b := xb) (c := xc) (if_pos w_41) (by decide)).symm (Nat.le_of_ble_eq_true rfl) (Nat.le_of_ble_eq_true rfl) dX7_putIntoRow_77

set_option maxHeartbeats 4000000 in
set_option maxRecDepth 100000 in
theorem c_X7_putIntoRow_50 (l : Launch) {D : va_G} {q : Nat → ClassId} {ad : Nat → Nat} {κ : KS} {τ : TAU} (sz : Nat) (ρ : Nat) (xa xb xc hd th : Int32) (hst : stepAt q ad κ τ ρ 50 xa xb xc) (hs : okStep 50 xa xb xc)(hX : WFx κ) (hN : nnOp κ 50 xa xb xc) : Met l yX7_putIntoRow wsX7_putIntoRow (rmz 2 42) (va_Pc [.ref (ad 5), .ref (ad ρ), .int 1] (rPre D q (wX q ad κ τ) sz)) (va_Qi (fun (r : Int32) (u : KS) => (r, u) = doR κ hd th 50 xa xb xc) (fun (u : KS) tt => rPo D (rA (wX q ad κ τ) sz) (wX q ad u τ) tt) (rA (wX q ad κ τ) sz)) 0 0 (rA (wX q ad κ τ) sz) := by
  have hi0 : vp_in xa 8 := hs.1
  have hi1 : vp_in xb 8 := hs.2.1
  have hi2 : vp_in xc 8 := hs.2.2
  refine r_start (cc := cX7_putIntoRow) (maxL := 6) (ret := (some .int)) (by decide) rfl (Nat.le_of_ble_eq_true rfl) ?_
  intro p e s m below meth c ls hC hr hlk hnm hsz hw hl
  have hx := hC.1
  have hb := hC.2.1
  have hl : lv_has ls 6 [(0, .ref (ad 5)), (1, .ref (ad ρ)), (2, .int 1)] := hl
  refine lv_aload_n hx hb dX7_putIntoRow_0 rfl (lv_at hl 0 rfl) ?_
  refine r_get hC hw rk7 in_X7_putIntoRow_7 5 (wXl 5 (by decide)) wXc5 0 (by decide) lk_X7_putIntoRow_9 (v := .ref (ad 2)) rfl dX7_putIntoRow_1 ?_
  refine lv_aload_n hx hb dX7_putIntoRow_4 rfl (lv_at hl 1 rfl) ?_
  refine r_get hC hw rk5 in_X7_putIntoRow_5 ρ hst.1 hst.2 2 (by decide) lk_X7_putIntoRow_74 (v := .int xb) rfl dX7_putIntoRow_5 ?_
  refine r_kq hw (r_runV (rest := []) hC hw 2 (c_X3_getThing l _ _ 2 12 xb (wXl 2 (by decide)) wXc2 (wXl 12 (by decide)) wXc12) rk3 (wXl 2 (by decide)) wXc2 1 gX7_putIntoRow_X3_getThing rfl rfl rfl (by decide +kernel) ⟨Nat.le_of_ble_eq_true rfl, Nat.le_of_ble_eq_true rfl⟩ rfl hl.1 rfl (Nat.le_of_ble_eq_true rfl) dX7_putIntoRow_8 ⟨Nat.le_of_ble_eq_true rfl, Nat.le_of_ble_eq_true rfl⟩) (fun r_2 u_3 H locs h_1 hw => ?_)
  subst h_1
  by_cases n_4 : (sA κ 3 (aN xb)) = 0
  · refine r_topv (y := .null) (by rw [gN_in (by assumption) (by decide)]; show va_rf ((rT (sA κ 3 (aN xb))).map ad) = _; rw [rT0 n_4]; rfl) ?_
    refine lv_astore_nN (lv' := [(3, .null), (0, .ref (ad 5)), (1, .ref (ad ρ)), (2, .int 1)]) hx hb dX7_putIntoRow_11 rfl hl (by decide) rfl (fun ls hl => ?_)
    refine lv_iload_n hx hb dX7_putIntoRow_12 rfl (lv_at hl 3 rfl) ?_
    refine lv_bipush (v := 8) hx hb dX7_putIntoRow_13 (by decide) ?_
    refine lv_icmp_lt (tgt := 32) hx hb dX7_putIntoRow_15 (by decide) (fun _ => ?_) (fun c_ => absurd (by decide) c_)
    refine lv_null hx hb dX7_putIntoRow_32 ?_
    refine lv_astoreN (lv' := [(4, .null), (3, .null), (0, .ref (ad 5)), (1, .ref (ad ρ)), (2, .int 1)]) hx hb dX7_putIntoRow_33 hl (by decide) rfl (fun ls hl => ?_)
    refine lv_aload_n hx hb dX7_putIntoRow_35 rfl (lv_at hl 2 rfl) ?_
    refine r_get hC hw rk7 in_X7_putIntoRow_7 5 (wXl 5 (by decide)) wXc5 0 (by decide) lk_X7_putIntoRow_9 (v := .ref (ad 2)) rfl dX7_putIntoRow_36 ?_
    refine lv_aload_n hx hb dX7_putIntoRow_39 rfl (lv_at hl 3 rfl) ?_
    refine r_get hC hw rk5 in_X7_putIntoRow_5 ρ hst.1 hst.2 3 (by decide) lk_X7_putIntoRow_57 (v := .int xc) rfl dX7_putIntoRow_40 ?_
    refine r_ki hw (r_runV (rest := []) hC hw 2 (c_X3_getWord l _ _ 2 8 xc (wXl 2 (by decide)) wXc2 (wXl 8 (by decide)) wXc8) rk3 (wXl 2 (by decide)) wXc2 1 gX7_putIntoRow_X3_getWord rfl rfl rfl (by decide +kernel) ⟨Nat.le_of_ble_eq_true rfl, Nat.le_of_ble_eq_true rfl⟩ rfl hl.1 rfl (Nat.le_of_ble_eq_true rfl) dX7_putIntoRow_43 ⟨Nat.le_of_ble_eq_true rfl, Nat.le_of_ble_eq_true rfl⟩) (fun r_6 u_7 H locs h_5 hw => ?_)
    subst h_5
    refine r_topv (y := .int (sA κ 2 (aN xc))) (congrArg _ (gN_in (by assumption) (by decide))) ?_
    refine lv_istore (lv' := [(5, .int (sA κ 2 (aN xc))), (4, .null), (3, .null), (0, .ref (ad 5)), (1, .ref (ad ρ)), (2, .int 1)]) hx hb dX7_putIntoRow_46 hl (by decide) rfl (fun ls hl => ?_)
    refine lv_aload_nN hx hb dX7_putIntoRow_48 rfl (lv_at hl 2 rfl) ?_
    refine lv_iload_n hx hb dX7_putIntoRow_49 rfl (lv_at hl 5 rfl) ?_
    refine r_ki hw (r_runSN (rest := []) hC hw hw.1.2.1 lks_X7_putIntoRow lkz_X7_putIntoRow_94 (c_X8_misfitsN_1 l _ _) 2 gX7_putIntoRow_X8_misfits_n94 rfl rfl rfl (by decide +kernel) ⟨Nat.le_of_ble_eq_true rfl, Nat.le_of_ble_eq_true rfl⟩ rfl hl.1 rfl (Nat.le_of_ble_eq_true rfl) dX7_putIntoRow_50 ⟨Nat.le_of_ble_eq_true rfl, Nat.le_of_ble_eq_true rfl⟩) (fun r_9 u_10 H locs h_8 hw => ?_)
    subst h_8
    have w_11 : ¬ pWrong κ (sA κ 3 (aN xb)) 1 := fun h => h.1 n_4
    refine lv_if_ne (tgt := 76) hx hb dX7_putIntoRow_53 (by decide) (fun c_ => absurd (by decide) c_) (fun _ => ?_)
    refine lv_aloadN hx hb dX7_putIntoRow_56 (lv_at hl 1 rfl) ?_
    refine lv_iload_n hx hb dX7_putIntoRow_58 rfl (lv_at hl 5 rfl) ?_
    refine lv_bipush (v := 10) hx hb dX7_putIntoRow_59 (by decide) ?_
    refine lv_icmp_ne (tgt := 68) hx hb dX7_putIntoRow_61 (by decide) (fun _ => ?_) (fun c_ => absurd c_ (by decide))
    refine lv_bipush (v := 11) hx hb dX7_putIntoRow_68 (by decide) ?_
    refine r_ki hw (r_runSN (rest := []) hC hw hw.1.2.1 lks_X7_putIntoRow lkz_X7_putIntoRow_94 (c_X8_misfitsN_11 l _ _) 2 gX7_putIntoRow_X8_misfits_n94 rfl rfl rfl (by decide +kernel) ⟨Nat.le_of_ble_eq_true rfl, Nat.le_of_ble_eq_true rfl⟩ rfl hl.1 rfl (Nat.le_of_ble_eq_true rfl) dX7_putIntoRow_70 ⟨Nat.le_of_ble_eq_true rfl, Nat.le_of_ble_eq_true rfl⟩) (fun r_13 u_14 H locs h_12 hw => ?_)
    subst h_12
    refine lv_if_eq (tgt := 78) hx hb dX7_putIntoRow_73 (by decide) (fun _ => ?_) (fun c_ => absurd (by decide) c_)
    refine lv_aload_nN hx hb dX7_putIntoRow_78 rfl (lv_at hl 2 rfl) ?_
    refine lv_ifnonnullN hx hb dX7_putIntoRow_79 ?_
    refine lv_iconst (v := 1) hx hb dX7_putIntoRow_82 (by decide) ?_
    exact r_iret hC hr hlk hw κ rfl (doRf (κ := κ) (hd := hd) (th := th) (k := 50) (a := xa) (b := xb) (c := xc) ((if_neg w_11).trans (if_pos n_4)) (by decide)).symm (Nat.le_of_ble_eq_true rfl) (Nat.le_of_ble_eq_true rfl) dX7_putIntoRow_83
  · refine r_topv (y := .ref (ad (100 + 4 * (aN ((sA κ 3 (aN xb)) - 1))))) (by rw [gN_in (by assumption) (by decide)]; show va_rf ((rT (sA κ 3 (aN xb))).map ad) = _; rw [rT1 n_4]; rfl) ?_
    have hB_b := hX.2.1 xb (by assumption) n_4
    have h6_b : (aN ((sA κ 3 (aN xb)) - 1)) < 60 := Nat.lt_of_lt_of_le hB_b.2 hX.1
    have hl_b : (wX q ad κ τ).2.1 (100 + 4 * (aN ((sA κ 3 (aN xb)) - 1))) := thl hB_b.2
    have hc_b : (wX q ad κ τ).2.2 (100 + 4 * (aN ((sA κ 3 (aN xb)) - 1))) = .inr (6, fsT ad κ (aN ((sA κ 3 (aN xb)) - 1))) := thc h6_b
    have hk_b := hX.2.2.1 _ hB_b.2
    refine lv_astore_n (lv' := [(3, .ref (ad (100 + 4 * (aN ((sA κ 3 (aN xb)) - 1))))), (0, .ref (ad 5)), (1, .ref (ad ρ)), (2, .int 1)]) hx hb dX7_putIntoRow_11 rfl hl (by decide) rfl (fun ls hl => ?_)
    refine lv_iload_n hx hb dX7_putIntoRow_12 rfl (lv_at hl 3 rfl) ?_
    refine lv_bipush (v := 8) hx hb dX7_putIntoRow_13 (by decide) ?_
    refine lv_icmp_lt (tgt := 32) hx hb dX7_putIntoRow_15 (by decide) (fun _ => ?_) (fun c_ => absurd (by decide) c_)
    refine lv_null hx hb dX7_putIntoRow_32 ?_
    refine lv_astoreN (lv' := [(4, .null), (3, .ref (ad (100 + 4 * (aN ((sA κ 3 (aN xb)) - 1))))), (0, .ref (ad 5)), (1, .ref (ad ρ)), (2, .int 1)]) hx hb dX7_putIntoRow_33 hl (by decide) rfl (fun ls hl => ?_)
    refine lv_aload_n hx hb dX7_putIntoRow_35 rfl (lv_at hl 2 rfl) ?_
    refine r_get hC hw rk7 in_X7_putIntoRow_7 5 (wXl 5 (by decide)) wXc5 0 (by decide) lk_X7_putIntoRow_9 (v := .ref (ad 2)) rfl dX7_putIntoRow_36 ?_
    refine lv_aload_n hx hb dX7_putIntoRow_39 rfl (lv_at hl 3 rfl) ?_
    refine r_get hC hw rk5 in_X7_putIntoRow_5 ρ hst.1 hst.2 3 (by decide) lk_X7_putIntoRow_57 (v := .int xc) rfl dX7_putIntoRow_40 ?_
    refine r_ki hw (r_runV (rest := []) hC hw 2 (c_X3_getWord l _ _ 2 8 xc (wXl 2 (by decide)) wXc2 (wXl 8 (by decide)) wXc8) rk3 (wXl 2 (by decide)) wXc2 1 gX7_putIntoRow_X3_getWord rfl rfl rfl (by decide +kernel) ⟨Nat.le_of_ble_eq_true rfl, Nat.le_of_ble_eq_true rfl⟩ rfl hl.1 rfl (Nat.le_of_ble_eq_true rfl) dX7_putIntoRow_43 ⟨Nat.le_of_ble_eq_true rfl, Nat.le_of_ble_eq_true rfl⟩) (fun r_17 u_18 H locs h_16 hw => ?_)
    subst h_16
    refine r_topv (y := .int (sA κ 2 (aN xc))) (congrArg _ (gN_in (by assumption) (by decide))) ?_
    refine lv_istore (lv' := [(5, .int (sA κ 2 (aN xc))), (4, .null), (3, .ref (ad (100 + 4 * (aN ((sA κ 3 (aN xb)) - 1))))), (0, .ref (ad 5)), (1, .ref (ad ρ)), (2, .int 1)]) hx hb dX7_putIntoRow_46 hl (by decide) rfl (fun ls hl => ?_)
    refine lv_aload_n hx hb dX7_putIntoRow_48 rfl (lv_at hl 2 rfl) ?_
    refine lv_iload_n hx hb dX7_putIntoRow_49 rfl (lv_at hl 5 rfl) ?_
    refine r_ki hw (r_runSN (rest := []) hC hw hw.1.2.1 lks_X7_putIntoRow lkz_X7_putIntoRow_94 (c_X8_misfits_1 l _ _ (100 + 4 * (aN ((sA κ 3 (aN xb)) - 1))) hk_b.1 hl_b hc_b) 2 gX7_putIntoRow_X8_misfits_n94 rfl rfl rfl (by decide +kernel) ⟨Nat.le_of_ble_eq_true rfl, Nat.le_of_ble_eq_true rfl⟩ rfl hl.1 rfl (Nat.le_of_ble_eq_true rfl) dX7_putIntoRow_50 ⟨Nat.le_of_ble_eq_true rfl, Nat.le_of_ble_eq_true rfl⟩) (fun r_20 u_21 H locs h_19 hw => ?_)
    by_cases c_22 : pOf (sA κ 4 (aN ((sA κ 3 (aN xb)) - 1))) 1
    · rw [if_pos c_22] at h_19
      subst h_19
      have w_23 : ¬ pWrong κ (sA κ 3 (aN xb)) 1 := fun h => h.2 c_22
      refine lv_if_ne (tgt := 76) hx hb dX7_putIntoRow_53 (by decide) (fun c_ => absurd (by decide) c_) (fun _ => ?_)
      refine lv_aloadN hx hb dX7_putIntoRow_56 (lv_at hl 1 rfl) ?_
      refine lv_iload_n hx hb dX7_putIntoRow_58 rfl (lv_at hl 5 rfl) ?_
      refine lv_bipush (v := 10) hx hb dX7_putIntoRow_59 (by decide) ?_
      refine lv_icmp_ne (tgt := 68) hx hb dX7_putIntoRow_61 (by decide) (fun _ => ?_) (fun c_ => absurd c_ (by decide))
      refine lv_bipush (v := 11) hx hb dX7_putIntoRow_68 (by decide) ?_
      refine r_ki hw (r_runSN (rest := []) hC hw hw.1.2.1 lks_X7_putIntoRow lkz_X7_putIntoRow_94 (c_X8_misfitsN_11 l _ _) 2 gX7_putIntoRow_X8_misfits_n94 rfl rfl rfl (by decide +kernel) ⟨Nat.le_of_ble_eq_true rfl, Nat.le_of_ble_eq_true rfl⟩ rfl hl.1 rfl (Nat.le_of_ble_eq_true rfl) dX7_putIntoRow_70 ⟨Nat.le_of_ble_eq_true rfl, Nat.le_of_ble_eq_true rfl⟩) (fun r_25 u_26 H locs h_24 hw => ?_)
      subst h_24
      refine lv_if_eq (tgt := 78) hx hb dX7_putIntoRow_73 (by decide) (fun _ => ?_) (fun c_ => absurd (by decide) c_)
      refine lv_aload_n hx hb dX7_putIntoRow_78 rfl (lv_at hl 2 rfl) ?_
      refine lv_ifnonnull (tgt := 84) hx hb dX7_putIntoRow_79 (by decide) ?_
      refine lv_aload_n hx hb dX7_putIntoRow_84 rfl (lv_at hl 2 rfl) ?_
      refine lv_iload hx hb dX7_putIntoRow_85 (lv_at hl 0 rfl) ?_
      refine r_ki hw (r_runV (rest := []) hC hw (100 + 4 * (aN ((sA κ 3 (aN xb)) - 1))) (c_X6_hasPlace l _ _ (100 + 4 * (aN ((sA κ 3 (aN xb)) - 1))) (sA κ 2 (aN xc)) hl_b hc_b) rk6 hl_b hc_b 1 gX7_putIntoRow_X6_hasPlace rfl rfl rfl (by decide +kernel) ⟨Nat.le_of_ble_eq_true rfl, Nat.le_of_ble_eq_true rfl⟩ rfl hl.1 rfl (Nat.le_of_ble_eq_true rfl) dX7_putIntoRow_87 ⟨Nat.le_of_ble_eq_true rfl, Nat.le_of_ble_eq_true rfl⟩) (fun r_29 u_30 H locs h_28 hw => ?_)
      rw [hp_eq hk_b.2] at h_28
      by_cases c_31 : pIn (sA κ 2 (aN xc)) 0 ((sA κ 5 (aN ((sA κ 3 (aN xb)) - 1))) - 1)
      · rw [if_pos c_31] at h_28
        subst h_28
        have hix := ixN hB_b.1 c_31 hk_b.2
        refine lv_if_ne (tgt := 95) hx hb dX7_putIntoRow_90 (by decide) (fun _ => ?_) (fun c_ => absurd c_ (by decide))
        refine lv_aload_n hx hb dX7_putIntoRow_95 rfl (lv_at hl 2 rfl) ?_
        refine r_get hC hw rk6 in_X7_putIntoRow_6 (100 + 4 * (aN ((sA κ 3 (aN xb)) - 1))) hl_b hc_b 0 (by decide) lk_X7_putIntoRow_145 (v := .int (sA κ 4 (aN ((sA κ 3 (aN xb)) - 1)))) rfl dX7_putIntoRow_96 ?_
        refine lv_bipush (v := 9) hx hb dX7_putIntoRow_99 (by decide) ?_
        refine lv_icmp_ne (tgt := 116) hx hb dX7_putIntoRow_101 (by decide) (fun _ => ?_) (fun c_ => absurd c_ (fun h => by rw [h] at c_22; exact absurd c_22 (by decide)))
        refine lv_iload_n hx hb dX7_putIntoRow_116 rfl (lv_at hl 5 rfl) ?_
        refine lv_iconst (v := 4) hx hb dX7_putIntoRow_117 (by decide) ?_
        refine lv_icmp_gt (tgt := 146) hx hb dX7_putIntoRow_118 (by decide) (fun c_ => absurd c_ (by decide)) (fun _ => ?_)
        refine lv_aload_n hx hb dX7_putIntoRow_121 rfl (lv_at hl 2 rfl) ?_
        refine lv_iload hx hb dX7_putIntoRow_122 (lv_at hl 0 rfl) ?_
        refine lv_iload_n hx hb dX7_putIntoRow_124 rfl (lv_at hl 5 rfl) ?_
        refine lv_aload_n hx hb dX7_putIntoRow_125 rfl (lv_at hl 3 rfl) ?_
        refine r_get hC hw rk7 in_X7_putIntoRow_7 5 (wXl 5 (by decide)) wXc5 0 (by decide) lk_X7_putIntoRow_9 (v := .ref (ad 2)) rfl dX7_putIntoRow_126 ?_
        refine lv_aload_n hx hb dX7_putIntoRow_129 rfl (lv_at hl 4 rfl) ?_
        refine r_get hC hw rk5 in_X7_putIntoRow_5 ρ hst.1 hst.2 1 (by decide) lk_X7_putIntoRow_69 (v := .int xa) rfl dX7_putIntoRow_130 ?_
        refine r_ki hw (r_runV (rest := [.int 1, .int (sA κ 2 (aN xc)), .ref (ad (100 + 4 * (aN ((sA κ 3 (aN xb)) - 1))))]) hC hw 2 (c_X3_getWord l _ _ 2 8 xa (wXl 2 (by decide)) wXc2 (wXl 8 (by decide)) wXc8) rk3 (wXl 2 (by decide)) wXc2 1 gX7_putIntoRow_X3_getWord rfl rfl rfl (by decide +kernel) ⟨Nat.le_of_ble_eq_true rfl, Nat.le_of_ble_eq_true rfl⟩ rfl hl.1 rfl (Nat.le_of_ble_eq_true rfl) dX7_putIntoRow_133 ⟨Nat.le_of_ble_eq_true rfl, Nat.le_of_ble_eq_true rfl⟩) (fun r_33 u_34 H locs h_32 hw => ?_)
        subst h_32
        refine r_topv (y := .int (sA κ 2 (aN xa))) (congrArg _ (gN_in (by assumption) (by decide))) ?_
        refine r_ki hw (r_runS (rest := [.int (sA κ 2 (aN xc)), .ref (ad (100 + 4 * (aN ((sA κ 3 (aN xb)) - 1))))]) hC hw (c_X7_narrow_1 l _ _ (sA κ 2 (aN xa))) 2 gX7_putIntoRow_X7_narrow rfl rfl rfl (by decide +kernel) ⟨Nat.le_of_ble_eq_true rfl, Nat.le_of_ble_eq_true rfl⟩ rfl hl.1 rfl (Nat.le_of_ble_eq_true rfl) dX7_putIntoRow_136 ⟨Nat.le_of_ble_eq_true rfl, Nat.le_of_ble_eq_true rfl⟩) (fun r_36 u_37 H locs h_35 hw => ?_)
        subst h_35
        refine lv_i2l (v := ((sA κ 2 (aN xa)).toInt8.toInt32).toInt64) hx hb dX7_putIntoRow_139 rfl ?_
        have hkd : sA κ 4 (aN ((sA κ 3 (aN xb)) - 1)) ≤ 5 := kd5 c_22
        refine r_kv hw (r_runV (rest := []) hC hw (100 + 4 * (aN ((sA κ 3 (aN xb)) - 1))) (c_X6_setNumber (x1 := .null) l _ _ (100 + 4 * (aN ((sA κ 3 (aN xb)) - 1))) (101 + 4 * (aN ((sA κ 3 (aN xb)) - 1))) (sA κ 2 (aN xc)) (((sA κ 2 (aN xa)).toInt8.toInt32).toInt64) (lnN_in hkd hix.2.2) (lnN_31 hk_b.2) hl_b hc_b (thl1 hB_b.2) (thc1 h6_b)) rk6 hl_b hc_b 2 gX7_putIntoRow_X6_setNumber rfl rfl rfl (by decide +kernel) ⟨Nat.le_of_ble_eq_true rfl, Nat.le_of_ble_eq_true rfl⟩ rfl hl.1 rfl (Nat.le_of_ble_eq_true rfl) dX7_putIntoRow_140 ⟨Nat.le_of_ble_eq_true rfl, Nat.le_of_ble_eq_true rfl⟩) (fun u_40 H locs h_38 hw => ?_)
        replace hw := xT_num h6_b hix.2.1 hw
        rw [← hix.1] at hw
        refine lv_goto (tgt := 232) hx hb dX7_putIntoRow_143 (by decide) ?_
        refine lv_iconst (v := 0) hx hb dX7_putIntoRow_232 (by decide) ?_
        exact r_iret hC hr hlk hw (uJ κ 1 (aN ((12 * ((sA κ 3 (aN xb)) - 1)) + (sA κ 2 (aN xc)))) (((sA κ 2 (aN xa)).toInt8.toInt32).toInt64)) rfl (doR0 (κ := κ) (hd := hd) (th := th) (k := 50) (a := xa) (b := xb) (c := xc) ((if_neg w_23).trans ((if_neg n_4).trans (if_pos c_31)))).symm (Nat.le_of_ble_eq_true rfl) (Nat.le_of_ble_eq_true rfl) dX7_putIntoRow_233
      · rw [if_neg c_31] at h_28
        subst h_28
        refine lv_if_ne (tgt := 95) hx hb dX7_putIntoRow_90 (by decide) (fun c_ => absurd (by decide) c_) (fun _ => ?_)
        refine lv_iconst (v := 2) hx hb dX7_putIntoRow_93 (by decide) ?_
        exact r_iret hC hr hlk hw κ rfl (doRf (κ := κ) (hd := hd) (th := th) (k := 50) (a := xa) (b := xb) (c := xc) ((if_neg w_23).trans ((if_neg n_4).trans (if_neg c_31))) (by decide)).symm (Nat.le_of_ble_eq_true rfl) (Nat.le_of_ble_eq_true rfl) dX7_putIntoRow_94
    · rw [if_neg c_22] at h_19
      subst h_19
      have w_41 : pWrong κ (sA κ 3 (aN xb)) 1 := ⟨n_4, c_22⟩
      refine lv_if_ne (tgt := 76) hx hb dX7_putIntoRow_53 (by decide) (fun _ => ?_) (fun c_ => absurd c_ (by decide))
      refine lv_iconst (v := 4) hx hb dX7_putIntoRow_76 (by decide) ?_
      exact r_iret hC hr hlk hw κ rfl (doRf (κ := κ) (hd := hd) (th := th) (k := 50) (a := xa) (b := xb) (c := xc) (if_pos w_41) (by decide)).symm (Nat.le_of_ble_eq_true rfl) (Nat.le_of_ble_eq_true rfl) dX7_putIntoRow_77

set_option maxHeartbeats 4000000 in
set_option maxRecDepth 100000 in
theorem c_X7_putIntoRow_51 (l : Launch) {D : va_G} {q : Nat → ClassId} {ad : Nat → Nat} {κ : KS} {τ : TAU} (sz : Nat) (ρ : Nat) (xa xb xc hd th : Int32) (hst : stepAt q ad κ τ ρ 51 xa xb xc) (hs : okStep 51 xa xb xc)(hX : WFx κ) (hN : nnOp κ 51 xa xb xc) : Met l yX7_putIntoRow wsX7_putIntoRow (rmz 2 42) (va_Pc [.ref (ad 5), .ref (ad ρ), .int 2] (rPre D q (wX q ad κ τ) sz)) (va_Qi (fun (r : Int32) (u : KS) => (r, u) = doR κ hd th 51 xa xb xc) (fun (u : KS) tt => rPo D (rA (wX q ad κ τ) sz) (wX q ad u τ) tt) (rA (wX q ad κ τ) sz)) 0 0 (rA (wX q ad κ τ) sz) := by
  have hi0 : vp_in xa 8 := hs.1
  have hi1 : vp_in xb 8 := hs.2.1
  have hi2 : vp_in xc 8 := hs.2.2
  refine r_start (cc := cX7_putIntoRow) (maxL := 6) (ret := (some .int)) (by decide) rfl (Nat.le_of_ble_eq_true rfl) ?_
  intro p e s m below meth c ls hC hr hlk hnm hsz hw hl
  have hx := hC.1
  have hb := hC.2.1
  have hl : lv_has ls 6 [(0, .ref (ad 5)), (1, .ref (ad ρ)), (2, .int 2)] := hl
  refine lv_aload_n hx hb dX7_putIntoRow_0 rfl (lv_at hl 0 rfl) ?_
  refine r_get hC hw rk7 in_X7_putIntoRow_7 5 (wXl 5 (by decide)) wXc5 0 (by decide) lk_X7_putIntoRow_9 (v := .ref (ad 2)) rfl dX7_putIntoRow_1 ?_
  refine lv_aload_n hx hb dX7_putIntoRow_4 rfl (lv_at hl 1 rfl) ?_
  refine r_get hC hw rk5 in_X7_putIntoRow_5 ρ hst.1 hst.2 2 (by decide) lk_X7_putIntoRow_74 (v := .int xb) rfl dX7_putIntoRow_5 ?_
  refine r_kq hw (r_runV (rest := []) hC hw 2 (c_X3_getThing l _ _ 2 12 xb (wXl 2 (by decide)) wXc2 (wXl 12 (by decide)) wXc12) rk3 (wXl 2 (by decide)) wXc2 1 gX7_putIntoRow_X3_getThing rfl rfl rfl (by decide +kernel) ⟨Nat.le_of_ble_eq_true rfl, Nat.le_of_ble_eq_true rfl⟩ rfl hl.1 rfl (Nat.le_of_ble_eq_true rfl) dX7_putIntoRow_8 ⟨Nat.le_of_ble_eq_true rfl, Nat.le_of_ble_eq_true rfl⟩) (fun r_2 u_3 H locs h_1 hw => ?_)
  subst h_1
  by_cases n_4 : (sA κ 3 (aN xb)) = 0
  · refine r_topv (y := .null) (by rw [gN_in (by assumption) (by decide)]; show va_rf ((rT (sA κ 3 (aN xb))).map ad) = _; rw [rT0 n_4]; rfl) ?_
    refine lv_astore_nN (lv' := [(3, .null), (0, .ref (ad 5)), (1, .ref (ad ρ)), (2, .int 2)]) hx hb dX7_putIntoRow_11 rfl hl (by decide) rfl (fun ls hl => ?_)
    refine lv_iload_n hx hb dX7_putIntoRow_12 rfl (lv_at hl 3 rfl) ?_
    refine lv_bipush (v := 8) hx hb dX7_putIntoRow_13 (by decide) ?_
    refine lv_icmp_lt (tgt := 32) hx hb dX7_putIntoRow_15 (by decide) (fun _ => ?_) (fun c_ => absurd (by decide) c_)
    refine lv_null hx hb dX7_putIntoRow_32 ?_
    refine lv_astoreN (lv' := [(4, .null), (3, .null), (0, .ref (ad 5)), (1, .ref (ad ρ)), (2, .int 2)]) hx hb dX7_putIntoRow_33 hl (by decide) rfl (fun ls hl => ?_)
    refine lv_aload_n hx hb dX7_putIntoRow_35 rfl (lv_at hl 2 rfl) ?_
    refine r_get hC hw rk7 in_X7_putIntoRow_7 5 (wXl 5 (by decide)) wXc5 0 (by decide) lk_X7_putIntoRow_9 (v := .ref (ad 2)) rfl dX7_putIntoRow_36 ?_
    refine lv_aload_n hx hb dX7_putIntoRow_39 rfl (lv_at hl 3 rfl) ?_
    refine r_get hC hw rk5 in_X7_putIntoRow_5 ρ hst.1 hst.2 3 (by decide) lk_X7_putIntoRow_57 (v := .int xc) rfl dX7_putIntoRow_40 ?_
    refine r_ki hw (r_runV (rest := []) hC hw 2 (c_X3_getWord l _ _ 2 8 xc (wXl 2 (by decide)) wXc2 (wXl 8 (by decide)) wXc8) rk3 (wXl 2 (by decide)) wXc2 1 gX7_putIntoRow_X3_getWord rfl rfl rfl (by decide +kernel) ⟨Nat.le_of_ble_eq_true rfl, Nat.le_of_ble_eq_true rfl⟩ rfl hl.1 rfl (Nat.le_of_ble_eq_true rfl) dX7_putIntoRow_43 ⟨Nat.le_of_ble_eq_true rfl, Nat.le_of_ble_eq_true rfl⟩) (fun r_6 u_7 H locs h_5 hw => ?_)
    subst h_5
    refine r_topv (y := .int (sA κ 2 (aN xc))) (congrArg _ (gN_in (by assumption) (by decide))) ?_
    refine lv_istore (lv' := [(5, .int (sA κ 2 (aN xc))), (4, .null), (3, .null), (0, .ref (ad 5)), (1, .ref (ad ρ)), (2, .int 2)]) hx hb dX7_putIntoRow_46 hl (by decide) rfl (fun ls hl => ?_)
    refine lv_aload_nN hx hb dX7_putIntoRow_48 rfl (lv_at hl 2 rfl) ?_
    refine lv_iload_n hx hb dX7_putIntoRow_49 rfl (lv_at hl 5 rfl) ?_
    refine r_ki hw (r_runSN (rest := []) hC hw hw.1.2.1 lks_X7_putIntoRow lkz_X7_putIntoRow_94 (c_X8_misfitsN_2 l _ _) 2 gX7_putIntoRow_X8_misfits_n94 rfl rfl rfl (by decide +kernel) ⟨Nat.le_of_ble_eq_true rfl, Nat.le_of_ble_eq_true rfl⟩ rfl hl.1 rfl (Nat.le_of_ble_eq_true rfl) dX7_putIntoRow_50 ⟨Nat.le_of_ble_eq_true rfl, Nat.le_of_ble_eq_true rfl⟩) (fun r_9 u_10 H locs h_8 hw => ?_)
    subst h_8
    have w_11 : ¬ pWrong κ (sA κ 3 (aN xb)) 2 := fun h => h.1 n_4
    refine lv_if_ne (tgt := 76) hx hb dX7_putIntoRow_53 (by decide) (fun c_ => absurd (by decide) c_) (fun _ => ?_)
    refine lv_aloadN hx hb dX7_putIntoRow_56 (lv_at hl 1 rfl) ?_
    refine lv_iload_n hx hb dX7_putIntoRow_58 rfl (lv_at hl 5 rfl) ?_
    refine lv_bipush (v := 10) hx hb dX7_putIntoRow_59 (by decide) ?_
    refine lv_icmp_ne (tgt := 68) hx hb dX7_putIntoRow_61 (by decide) (fun _ => ?_) (fun c_ => absurd c_ (by decide))
    refine lv_bipush (v := 11) hx hb dX7_putIntoRow_68 (by decide) ?_
    refine r_ki hw (r_runSN (rest := []) hC hw hw.1.2.1 lks_X7_putIntoRow lkz_X7_putIntoRow_94 (c_X8_misfitsN_11 l _ _) 2 gX7_putIntoRow_X8_misfits_n94 rfl rfl rfl (by decide +kernel) ⟨Nat.le_of_ble_eq_true rfl, Nat.le_of_ble_eq_true rfl⟩ rfl hl.1 rfl (Nat.le_of_ble_eq_true rfl) dX7_putIntoRow_70 ⟨Nat.le_of_ble_eq_true rfl, Nat.le_of_ble_eq_true rfl⟩) (fun r_13 u_14 H locs h_12 hw => ?_)
    subst h_12
    refine lv_if_eq (tgt := 78) hx hb dX7_putIntoRow_73 (by decide) (fun _ => ?_) (fun c_ => absurd (by decide) c_)
    refine lv_aload_nN hx hb dX7_putIntoRow_78 rfl (lv_at hl 2 rfl) ?_
    refine lv_ifnonnullN hx hb dX7_putIntoRow_79 ?_
    refine lv_iconst (v := 1) hx hb dX7_putIntoRow_82 (by decide) ?_
    exact r_iret hC hr hlk hw κ rfl (doRf (κ := κ) (hd := hd) (th := th) (k := 51) (a := xa) (b := xb) (c := xc) ((if_neg w_11).trans (if_pos n_4)) (by decide)).symm (Nat.le_of_ble_eq_true rfl) (Nat.le_of_ble_eq_true rfl) dX7_putIntoRow_83
  · refine r_topv (y := .ref (ad (100 + 4 * (aN ((sA κ 3 (aN xb)) - 1))))) (by rw [gN_in (by assumption) (by decide)]; show va_rf ((rT (sA κ 3 (aN xb))).map ad) = _; rw [rT1 n_4]; rfl) ?_
    have hB_b := hX.2.1 xb (by assumption) n_4
    have h6_b : (aN ((sA κ 3 (aN xb)) - 1)) < 60 := Nat.lt_of_lt_of_le hB_b.2 hX.1
    have hl_b : (wX q ad κ τ).2.1 (100 + 4 * (aN ((sA κ 3 (aN xb)) - 1))) := thl hB_b.2
    have hc_b : (wX q ad κ τ).2.2 (100 + 4 * (aN ((sA κ 3 (aN xb)) - 1))) = .inr (6, fsT ad κ (aN ((sA κ 3 (aN xb)) - 1))) := thc h6_b
    have hk_b := hX.2.2.1 _ hB_b.2
    refine lv_astore_n (lv' := [(3, .ref (ad (100 + 4 * (aN ((sA κ 3 (aN xb)) - 1))))), (0, .ref (ad 5)), (1, .ref (ad ρ)), (2, .int 2)]) hx hb dX7_putIntoRow_11 rfl hl (by decide) rfl (fun ls hl => ?_)
    refine lv_iload_n hx hb dX7_putIntoRow_12 rfl (lv_at hl 3 rfl) ?_
    refine lv_bipush (v := 8) hx hb dX7_putIntoRow_13 (by decide) ?_
    refine lv_icmp_lt (tgt := 32) hx hb dX7_putIntoRow_15 (by decide) (fun _ => ?_) (fun c_ => absurd (by decide) c_)
    refine lv_null hx hb dX7_putIntoRow_32 ?_
    refine lv_astoreN (lv' := [(4, .null), (3, .ref (ad (100 + 4 * (aN ((sA κ 3 (aN xb)) - 1))))), (0, .ref (ad 5)), (1, .ref (ad ρ)), (2, .int 2)]) hx hb dX7_putIntoRow_33 hl (by decide) rfl (fun ls hl => ?_)
    refine lv_aload_n hx hb dX7_putIntoRow_35 rfl (lv_at hl 2 rfl) ?_
    refine r_get hC hw rk7 in_X7_putIntoRow_7 5 (wXl 5 (by decide)) wXc5 0 (by decide) lk_X7_putIntoRow_9 (v := .ref (ad 2)) rfl dX7_putIntoRow_36 ?_
    refine lv_aload_n hx hb dX7_putIntoRow_39 rfl (lv_at hl 3 rfl) ?_
    refine r_get hC hw rk5 in_X7_putIntoRow_5 ρ hst.1 hst.2 3 (by decide) lk_X7_putIntoRow_57 (v := .int xc) rfl dX7_putIntoRow_40 ?_
    refine r_ki hw (r_runV (rest := []) hC hw 2 (c_X3_getWord l _ _ 2 8 xc (wXl 2 (by decide)) wXc2 (wXl 8 (by decide)) wXc8) rk3 (wXl 2 (by decide)) wXc2 1 gX7_putIntoRow_X3_getWord rfl rfl rfl (by decide +kernel) ⟨Nat.le_of_ble_eq_true rfl, Nat.le_of_ble_eq_true rfl⟩ rfl hl.1 rfl (Nat.le_of_ble_eq_true rfl) dX7_putIntoRow_43 ⟨Nat.le_of_ble_eq_true rfl, Nat.le_of_ble_eq_true rfl⟩) (fun r_17 u_18 H locs h_16 hw => ?_)
    subst h_16
    refine r_topv (y := .int (sA κ 2 (aN xc))) (congrArg _ (gN_in (by assumption) (by decide))) ?_
    refine lv_istore (lv' := [(5, .int (sA κ 2 (aN xc))), (4, .null), (3, .ref (ad (100 + 4 * (aN ((sA κ 3 (aN xb)) - 1))))), (0, .ref (ad 5)), (1, .ref (ad ρ)), (2, .int 2)]) hx hb dX7_putIntoRow_46 hl (by decide) rfl (fun ls hl => ?_)
    refine lv_aload_n hx hb dX7_putIntoRow_48 rfl (lv_at hl 2 rfl) ?_
    refine lv_iload_n hx hb dX7_putIntoRow_49 rfl (lv_at hl 5 rfl) ?_
    refine r_ki hw (r_runSN (rest := []) hC hw hw.1.2.1 lks_X7_putIntoRow lkz_X7_putIntoRow_94 (c_X8_misfits_2 l _ _ (100 + 4 * (aN ((sA κ 3 (aN xb)) - 1))) hk_b.1 hl_b hc_b) 2 gX7_putIntoRow_X8_misfits_n94 rfl rfl rfl (by decide +kernel) ⟨Nat.le_of_ble_eq_true rfl, Nat.le_of_ble_eq_true rfl⟩ rfl hl.1 rfl (Nat.le_of_ble_eq_true rfl) dX7_putIntoRow_50 ⟨Nat.le_of_ble_eq_true rfl, Nat.le_of_ble_eq_true rfl⟩) (fun r_20 u_21 H locs h_19 hw => ?_)
    by_cases c_22 : pOf (sA κ 4 (aN ((sA κ 3 (aN xb)) - 1))) 2
    · rw [if_pos c_22] at h_19
      subst h_19
      have w_23 : ¬ pWrong κ (sA κ 3 (aN xb)) 2 := fun h => h.2 c_22
      refine lv_if_ne (tgt := 76) hx hb dX7_putIntoRow_53 (by decide) (fun c_ => absurd (by decide) c_) (fun _ => ?_)
      refine lv_aloadN hx hb dX7_putIntoRow_56 (lv_at hl 1 rfl) ?_
      refine lv_iload_n hx hb dX7_putIntoRow_58 rfl (lv_at hl 5 rfl) ?_
      refine lv_bipush (v := 10) hx hb dX7_putIntoRow_59 (by decide) ?_
      refine lv_icmp_ne (tgt := 68) hx hb dX7_putIntoRow_61 (by decide) (fun _ => ?_) (fun c_ => absurd c_ (by decide))
      refine lv_bipush (v := 11) hx hb dX7_putIntoRow_68 (by decide) ?_
      refine r_ki hw (r_runSN (rest := []) hC hw hw.1.2.1 lks_X7_putIntoRow lkz_X7_putIntoRow_94 (c_X8_misfitsN_11 l _ _) 2 gX7_putIntoRow_X8_misfits_n94 rfl rfl rfl (by decide +kernel) ⟨Nat.le_of_ble_eq_true rfl, Nat.le_of_ble_eq_true rfl⟩ rfl hl.1 rfl (Nat.le_of_ble_eq_true rfl) dX7_putIntoRow_70 ⟨Nat.le_of_ble_eq_true rfl, Nat.le_of_ble_eq_true rfl⟩) (fun r_25 u_26 H locs h_24 hw => ?_)
      subst h_24
      refine lv_if_eq (tgt := 78) hx hb dX7_putIntoRow_73 (by decide) (fun _ => ?_) (fun c_ => absurd (by decide) c_)
      refine lv_aload_n hx hb dX7_putIntoRow_78 rfl (lv_at hl 2 rfl) ?_
      refine lv_ifnonnull (tgt := 84) hx hb dX7_putIntoRow_79 (by decide) ?_
      refine lv_aload_n hx hb dX7_putIntoRow_84 rfl (lv_at hl 2 rfl) ?_
      refine lv_iload hx hb dX7_putIntoRow_85 (lv_at hl 0 rfl) ?_
      refine r_ki hw (r_runV (rest := []) hC hw (100 + 4 * (aN ((sA κ 3 (aN xb)) - 1))) (c_X6_hasPlace l _ _ (100 + 4 * (aN ((sA κ 3 (aN xb)) - 1))) (sA κ 2 (aN xc)) hl_b hc_b) rk6 hl_b hc_b 1 gX7_putIntoRow_X6_hasPlace rfl rfl rfl (by decide +kernel) ⟨Nat.le_of_ble_eq_true rfl, Nat.le_of_ble_eq_true rfl⟩ rfl hl.1 rfl (Nat.le_of_ble_eq_true rfl) dX7_putIntoRow_87 ⟨Nat.le_of_ble_eq_true rfl, Nat.le_of_ble_eq_true rfl⟩) (fun r_29 u_30 H locs h_28 hw => ?_)
      rw [hp_eq hk_b.2] at h_28
      by_cases c_31 : pIn (sA κ 2 (aN xc)) 0 ((sA κ 5 (aN ((sA κ 3 (aN xb)) - 1))) - 1)
      · rw [if_pos c_31] at h_28
        subst h_28
        have hix := ixN hB_b.1 c_31 hk_b.2
        refine lv_if_ne (tgt := 95) hx hb dX7_putIntoRow_90 (by decide) (fun _ => ?_) (fun c_ => absurd c_ (by decide))
        refine lv_aload_n hx hb dX7_putIntoRow_95 rfl (lv_at hl 2 rfl) ?_
        refine r_get hC hw rk6 in_X7_putIntoRow_6 (100 + 4 * (aN ((sA κ 3 (aN xb)) - 1))) hl_b hc_b 0 (by decide) lk_X7_putIntoRow_145 (v := .int (sA κ 4 (aN ((sA κ 3 (aN xb)) - 1)))) rfl dX7_putIntoRow_96 ?_
        refine lv_bipush (v := 9) hx hb dX7_putIntoRow_99 (by decide) ?_
        refine lv_icmp_ne (tgt := 116) hx hb dX7_putIntoRow_101 (by decide) (fun _ => ?_) (fun c_ => absurd c_ (fun h => by rw [h] at c_22; exact absurd c_22 (by decide)))
        refine lv_iload_n hx hb dX7_putIntoRow_116 rfl (lv_at hl 5 rfl) ?_
        refine lv_iconst (v := 4) hx hb dX7_putIntoRow_117 (by decide) ?_
        refine lv_icmp_gt (tgt := 146) hx hb dX7_putIntoRow_118 (by decide) (fun c_ => absurd c_ (by decide)) (fun _ => ?_)
        refine lv_aload_n hx hb dX7_putIntoRow_121 rfl (lv_at hl 2 rfl) ?_
        refine lv_iload hx hb dX7_putIntoRow_122 (lv_at hl 0 rfl) ?_
        refine lv_iload_n hx hb dX7_putIntoRow_124 rfl (lv_at hl 5 rfl) ?_
        refine lv_aload_n hx hb dX7_putIntoRow_125 rfl (lv_at hl 3 rfl) ?_
        refine r_get hC hw rk7 in_X7_putIntoRow_7 5 (wXl 5 (by decide)) wXc5 0 (by decide) lk_X7_putIntoRow_9 (v := .ref (ad 2)) rfl dX7_putIntoRow_126 ?_
        refine lv_aload_n hx hb dX7_putIntoRow_129 rfl (lv_at hl 4 rfl) ?_
        refine r_get hC hw rk5 in_X7_putIntoRow_5 ρ hst.1 hst.2 1 (by decide) lk_X7_putIntoRow_69 (v := .int xa) rfl dX7_putIntoRow_130 ?_
        refine r_ki hw (r_runV (rest := [.int 2, .int (sA κ 2 (aN xc)), .ref (ad (100 + 4 * (aN ((sA κ 3 (aN xb)) - 1))))]) hC hw 2 (c_X3_getWord l _ _ 2 8 xa (wXl 2 (by decide)) wXc2 (wXl 8 (by decide)) wXc8) rk3 (wXl 2 (by decide)) wXc2 1 gX7_putIntoRow_X3_getWord rfl rfl rfl (by decide +kernel) ⟨Nat.le_of_ble_eq_true rfl, Nat.le_of_ble_eq_true rfl⟩ rfl hl.1 rfl (Nat.le_of_ble_eq_true rfl) dX7_putIntoRow_133 ⟨Nat.le_of_ble_eq_true rfl, Nat.le_of_ble_eq_true rfl⟩) (fun r_33 u_34 H locs h_32 hw => ?_)
        subst h_32
        refine r_topv (y := .int (sA κ 2 (aN xa))) (congrArg _ (gN_in (by assumption) (by decide))) ?_
        refine r_ki hw (r_runS (rest := [.int (sA κ 2 (aN xc)), .ref (ad (100 + 4 * (aN ((sA κ 3 (aN xb)) - 1))))]) hC hw (c_X7_narrow_2 l _ _ (sA κ 2 (aN xa))) 2 gX7_putIntoRow_X7_narrow rfl rfl rfl (by decide +kernel) ⟨Nat.le_of_ble_eq_true rfl, Nat.le_of_ble_eq_true rfl⟩ rfl hl.1 rfl (Nat.le_of_ble_eq_true rfl) dX7_putIntoRow_136 ⟨Nat.le_of_ble_eq_true rfl, Nat.le_of_ble_eq_true rfl⟩) (fun r_36 u_37 H locs h_35 hw => ?_)
        subst h_35
        refine lv_i2l (v := (((sA κ 2 (aN xa)).toUInt32 % 65536).toInt32).toInt64) hx hb dX7_putIntoRow_139 rfl ?_
        have hkd : sA κ 4 (aN ((sA κ 3 (aN xb)) - 1)) ≤ 5 := kd5 c_22
        refine r_kv hw (r_runV (rest := []) hC hw (100 + 4 * (aN ((sA κ 3 (aN xb)) - 1))) (c_X6_setNumber (x1 := .null) l _ _ (100 + 4 * (aN ((sA κ 3 (aN xb)) - 1))) (101 + 4 * (aN ((sA κ 3 (aN xb)) - 1))) (sA κ 2 (aN xc)) ((((sA κ 2 (aN xa)).toUInt32 % 65536).toInt32).toInt64) (lnN_in hkd hix.2.2) (lnN_31 hk_b.2) hl_b hc_b (thl1 hB_b.2) (thc1 h6_b)) rk6 hl_b hc_b 2 gX7_putIntoRow_X6_setNumber rfl rfl rfl (by decide +kernel) ⟨Nat.le_of_ble_eq_true rfl, Nat.le_of_ble_eq_true rfl⟩ rfl hl.1 rfl (Nat.le_of_ble_eq_true rfl) dX7_putIntoRow_140 ⟨Nat.le_of_ble_eq_true rfl, Nat.le_of_ble_eq_true rfl⟩) (fun u_40 H locs h_38 hw => ?_)
        replace hw := xT_num h6_b hix.2.1 hw
        rw [← hix.1] at hw
        refine lv_goto (tgt := 232) hx hb dX7_putIntoRow_143 (by decide) ?_
        refine lv_iconst (v := 0) hx hb dX7_putIntoRow_232 (by decide) ?_
        exact r_iret hC hr hlk hw (uJ κ 1 (aN ((12 * ((sA κ 3 (aN xb)) - 1)) + (sA κ 2 (aN xc)))) ((((sA κ 2 (aN xa)).toUInt32 % 65536).toInt32).toInt64)) rfl (by rw [and16]; exact (doR0 (κ := κ) (hd := hd) (th := th) (k := 51) (a := xa) (b := xb) (c := xc) ((if_neg w_23).trans ((if_neg n_4).trans (if_pos c_31)))).symm) (Nat.le_of_ble_eq_true rfl) (Nat.le_of_ble_eq_true rfl) dX7_putIntoRow_233
      · rw [if_neg c_31] at h_28
        subst h_28
        refine lv_if_ne (tgt := 95) hx hb dX7_putIntoRow_90 (by decide) (fun c_ => absurd (by decide) c_) (fun _ => ?_)
        refine lv_iconst (v := 2) hx hb dX7_putIntoRow_93 (by decide) ?_
        exact r_iret hC hr hlk hw κ rfl (doRf (κ := κ) (hd := hd) (th := th) (k := 51) (a := xa) (b := xb) (c := xc) ((if_neg w_23).trans ((if_neg n_4).trans (if_neg c_31))) (by decide)).symm (Nat.le_of_ble_eq_true rfl) (Nat.le_of_ble_eq_true rfl) dX7_putIntoRow_94
    · rw [if_neg c_22] at h_19
      subst h_19
      have w_41 : pWrong κ (sA κ 3 (aN xb)) 2 := ⟨n_4, c_22⟩
      refine lv_if_ne (tgt := 76) hx hb dX7_putIntoRow_53 (by decide) (fun _ => ?_) (fun c_ => absurd c_ (by decide))
      refine lv_iconst (v := 4) hx hb dX7_putIntoRow_76 (by decide) ?_
      exact r_iret hC hr hlk hw κ rfl (doRf (κ := κ) (hd := hd) (th := th) (k := 51) (a := xa) (b := xb) (c := xc) (if_pos w_41) (by decide)).symm (Nat.le_of_ble_eq_true rfl) (Nat.le_of_ble_eq_true rfl) dX7_putIntoRow_77

set_option maxHeartbeats 4000000 in
set_option maxRecDepth 100000 in
theorem c_X7_putIntoRow_52 (l : Launch) {D : va_G} {q : Nat → ClassId} {ad : Nat → Nat} {κ : KS} {τ : TAU} (sz : Nat) (ρ : Nat) (xa xb xc hd th : Int32) (hst : stepAt q ad κ τ ρ 52 xa xb xc) (hs : okStep 52 xa xb xc)(hX : WFx κ) (hN : nnOp κ 52 xa xb xc) : Met l yX7_putIntoRow wsX7_putIntoRow (rmz 2 42) (va_Pc [.ref (ad 5), .ref (ad ρ), .int 3] (rPre D q (wX q ad κ τ) sz)) (va_Qi (fun (r : Int32) (u : KS) => (r, u) = doR κ hd th 52 xa xb xc) (fun (u : KS) tt => rPo D (rA (wX q ad κ τ) sz) (wX q ad u τ) tt) (rA (wX q ad κ τ) sz)) 0 0 (rA (wX q ad κ τ) sz) := by
  have hi0 : vp_in xa 8 := hs.1
  have hi1 : vp_in xb 8 := hs.2.1
  have hi2 : vp_in xc 8 := hs.2.2
  refine r_start (cc := cX7_putIntoRow) (maxL := 6) (ret := (some .int)) (by decide) rfl (Nat.le_of_ble_eq_true rfl) ?_
  intro p e s m below meth c ls hC hr hlk hnm hsz hw hl
  have hx := hC.1
  have hb := hC.2.1
  have hl : lv_has ls 6 [(0, .ref (ad 5)), (1, .ref (ad ρ)), (2, .int 3)] := hl
  refine lv_aload_n hx hb dX7_putIntoRow_0 rfl (lv_at hl 0 rfl) ?_
  refine r_get hC hw rk7 in_X7_putIntoRow_7 5 (wXl 5 (by decide)) wXc5 0 (by decide) lk_X7_putIntoRow_9 (v := .ref (ad 2)) rfl dX7_putIntoRow_1 ?_
  refine lv_aload_n hx hb dX7_putIntoRow_4 rfl (lv_at hl 1 rfl) ?_
  refine r_get hC hw rk5 in_X7_putIntoRow_5 ρ hst.1 hst.2 2 (by decide) lk_X7_putIntoRow_74 (v := .int xb) rfl dX7_putIntoRow_5 ?_
  refine r_kq hw (r_runV (rest := []) hC hw 2 (c_X3_getThing l _ _ 2 12 xb (wXl 2 (by decide)) wXc2 (wXl 12 (by decide)) wXc12) rk3 (wXl 2 (by decide)) wXc2 1 gX7_putIntoRow_X3_getThing rfl rfl rfl (by decide +kernel) ⟨Nat.le_of_ble_eq_true rfl, Nat.le_of_ble_eq_true rfl⟩ rfl hl.1 rfl (Nat.le_of_ble_eq_true rfl) dX7_putIntoRow_8 ⟨Nat.le_of_ble_eq_true rfl, Nat.le_of_ble_eq_true rfl⟩) (fun r_2 u_3 H locs h_1 hw => ?_)
  subst h_1
  by_cases n_4 : (sA κ 3 (aN xb)) = 0
  · refine r_topv (y := .null) (by rw [gN_in (by assumption) (by decide)]; show va_rf ((rT (sA κ 3 (aN xb))).map ad) = _; rw [rT0 n_4]; rfl) ?_
    refine lv_astore_nN (lv' := [(3, .null), (0, .ref (ad 5)), (1, .ref (ad ρ)), (2, .int 3)]) hx hb dX7_putIntoRow_11 rfl hl (by decide) rfl (fun ls hl => ?_)
    refine lv_iload_n hx hb dX7_putIntoRow_12 rfl (lv_at hl 3 rfl) ?_
    refine lv_bipush (v := 8) hx hb dX7_putIntoRow_13 (by decide) ?_
    refine lv_icmp_lt (tgt := 32) hx hb dX7_putIntoRow_15 (by decide) (fun _ => ?_) (fun c_ => absurd (by decide) c_)
    refine lv_null hx hb dX7_putIntoRow_32 ?_
    refine lv_astoreN (lv' := [(4, .null), (3, .null), (0, .ref (ad 5)), (1, .ref (ad ρ)), (2, .int 3)]) hx hb dX7_putIntoRow_33 hl (by decide) rfl (fun ls hl => ?_)
    refine lv_aload_n hx hb dX7_putIntoRow_35 rfl (lv_at hl 2 rfl) ?_
    refine r_get hC hw rk7 in_X7_putIntoRow_7 5 (wXl 5 (by decide)) wXc5 0 (by decide) lk_X7_putIntoRow_9 (v := .ref (ad 2)) rfl dX7_putIntoRow_36 ?_
    refine lv_aload_n hx hb dX7_putIntoRow_39 rfl (lv_at hl 3 rfl) ?_
    refine r_get hC hw rk5 in_X7_putIntoRow_5 ρ hst.1 hst.2 3 (by decide) lk_X7_putIntoRow_57 (v := .int xc) rfl dX7_putIntoRow_40 ?_
    refine r_ki hw (r_runV (rest := []) hC hw 2 (c_X3_getWord l _ _ 2 8 xc (wXl 2 (by decide)) wXc2 (wXl 8 (by decide)) wXc8) rk3 (wXl 2 (by decide)) wXc2 1 gX7_putIntoRow_X3_getWord rfl rfl rfl (by decide +kernel) ⟨Nat.le_of_ble_eq_true rfl, Nat.le_of_ble_eq_true rfl⟩ rfl hl.1 rfl (Nat.le_of_ble_eq_true rfl) dX7_putIntoRow_43 ⟨Nat.le_of_ble_eq_true rfl, Nat.le_of_ble_eq_true rfl⟩) (fun r_6 u_7 H locs h_5 hw => ?_)
    subst h_5
    refine r_topv (y := .int (sA κ 2 (aN xc))) (congrArg _ (gN_in (by assumption) (by decide))) ?_
    refine lv_istore (lv' := [(5, .int (sA κ 2 (aN xc))), (4, .null), (3, .null), (0, .ref (ad 5)), (1, .ref (ad ρ)), (2, .int 3)]) hx hb dX7_putIntoRow_46 hl (by decide) rfl (fun ls hl => ?_)
    refine lv_aload_nN hx hb dX7_putIntoRow_48 rfl (lv_at hl 2 rfl) ?_
    refine lv_iload_n hx hb dX7_putIntoRow_49 rfl (lv_at hl 5 rfl) ?_
    refine r_ki hw (r_runSN (rest := []) hC hw hw.1.2.1 lks_X7_putIntoRow lkz_X7_putIntoRow_94 (c_X8_misfitsN_3 l _ _) 2 gX7_putIntoRow_X8_misfits_n94 rfl rfl rfl (by decide +kernel) ⟨Nat.le_of_ble_eq_true rfl, Nat.le_of_ble_eq_true rfl⟩ rfl hl.1 rfl (Nat.le_of_ble_eq_true rfl) dX7_putIntoRow_50 ⟨Nat.le_of_ble_eq_true rfl, Nat.le_of_ble_eq_true rfl⟩) (fun r_9 u_10 H locs h_8 hw => ?_)
    subst h_8
    have w_11 : ¬ pWrong κ (sA κ 3 (aN xb)) 3 := fun h => h.1 n_4
    refine lv_if_ne (tgt := 76) hx hb dX7_putIntoRow_53 (by decide) (fun c_ => absurd (by decide) c_) (fun _ => ?_)
    refine lv_aloadN hx hb dX7_putIntoRow_56 (lv_at hl 1 rfl) ?_
    refine lv_iload_n hx hb dX7_putIntoRow_58 rfl (lv_at hl 5 rfl) ?_
    refine lv_bipush (v := 10) hx hb dX7_putIntoRow_59 (by decide) ?_
    refine lv_icmp_ne (tgt := 68) hx hb dX7_putIntoRow_61 (by decide) (fun _ => ?_) (fun c_ => absurd c_ (by decide))
    refine lv_bipush (v := 11) hx hb dX7_putIntoRow_68 (by decide) ?_
    refine r_ki hw (r_runSN (rest := []) hC hw hw.1.2.1 lks_X7_putIntoRow lkz_X7_putIntoRow_94 (c_X8_misfitsN_11 l _ _) 2 gX7_putIntoRow_X8_misfits_n94 rfl rfl rfl (by decide +kernel) ⟨Nat.le_of_ble_eq_true rfl, Nat.le_of_ble_eq_true rfl⟩ rfl hl.1 rfl (Nat.le_of_ble_eq_true rfl) dX7_putIntoRow_70 ⟨Nat.le_of_ble_eq_true rfl, Nat.le_of_ble_eq_true rfl⟩) (fun r_13 u_14 H locs h_12 hw => ?_)
    subst h_12
    refine lv_if_eq (tgt := 78) hx hb dX7_putIntoRow_73 (by decide) (fun _ => ?_) (fun c_ => absurd (by decide) c_)
    refine lv_aload_nN hx hb dX7_putIntoRow_78 rfl (lv_at hl 2 rfl) ?_
    refine lv_ifnonnullN hx hb dX7_putIntoRow_79 ?_
    refine lv_iconst (v := 1) hx hb dX7_putIntoRow_82 (by decide) ?_
    exact r_iret hC hr hlk hw κ rfl (doRf (κ := κ) (hd := hd) (th := th) (k := 52) (a := xa) (b := xb) (c := xc) ((if_neg w_11).trans (if_pos n_4)) (by decide)).symm (Nat.le_of_ble_eq_true rfl) (Nat.le_of_ble_eq_true rfl) dX7_putIntoRow_83
  · refine r_topv (y := .ref (ad (100 + 4 * (aN ((sA κ 3 (aN xb)) - 1))))) (by rw [gN_in (by assumption) (by decide)]; show va_rf ((rT (sA κ 3 (aN xb))).map ad) = _; rw [rT1 n_4]; rfl) ?_
    have hB_b := hX.2.1 xb (by assumption) n_4
    have h6_b : (aN ((sA κ 3 (aN xb)) - 1)) < 60 := Nat.lt_of_lt_of_le hB_b.2 hX.1
    have hl_b : (wX q ad κ τ).2.1 (100 + 4 * (aN ((sA κ 3 (aN xb)) - 1))) := thl hB_b.2
    have hc_b : (wX q ad κ τ).2.2 (100 + 4 * (aN ((sA κ 3 (aN xb)) - 1))) = .inr (6, fsT ad κ (aN ((sA κ 3 (aN xb)) - 1))) := thc h6_b
    have hk_b := hX.2.2.1 _ hB_b.2
    refine lv_astore_n (lv' := [(3, .ref (ad (100 + 4 * (aN ((sA κ 3 (aN xb)) - 1))))), (0, .ref (ad 5)), (1, .ref (ad ρ)), (2, .int 3)]) hx hb dX7_putIntoRow_11 rfl hl (by decide) rfl (fun ls hl => ?_)
    refine lv_iload_n hx hb dX7_putIntoRow_12 rfl (lv_at hl 3 rfl) ?_
    refine lv_bipush (v := 8) hx hb dX7_putIntoRow_13 (by decide) ?_
    refine lv_icmp_lt (tgt := 32) hx hb dX7_putIntoRow_15 (by decide) (fun _ => ?_) (fun c_ => absurd (by decide) c_)
    refine lv_null hx hb dX7_putIntoRow_32 ?_
    refine lv_astoreN (lv' := [(4, .null), (3, .ref (ad (100 + 4 * (aN ((sA κ 3 (aN xb)) - 1))))), (0, .ref (ad 5)), (1, .ref (ad ρ)), (2, .int 3)]) hx hb dX7_putIntoRow_33 hl (by decide) rfl (fun ls hl => ?_)
    refine lv_aload_n hx hb dX7_putIntoRow_35 rfl (lv_at hl 2 rfl) ?_
    refine r_get hC hw rk7 in_X7_putIntoRow_7 5 (wXl 5 (by decide)) wXc5 0 (by decide) lk_X7_putIntoRow_9 (v := .ref (ad 2)) rfl dX7_putIntoRow_36 ?_
    refine lv_aload_n hx hb dX7_putIntoRow_39 rfl (lv_at hl 3 rfl) ?_
    refine r_get hC hw rk5 in_X7_putIntoRow_5 ρ hst.1 hst.2 3 (by decide) lk_X7_putIntoRow_57 (v := .int xc) rfl dX7_putIntoRow_40 ?_
    refine r_ki hw (r_runV (rest := []) hC hw 2 (c_X3_getWord l _ _ 2 8 xc (wXl 2 (by decide)) wXc2 (wXl 8 (by decide)) wXc8) rk3 (wXl 2 (by decide)) wXc2 1 gX7_putIntoRow_X3_getWord rfl rfl rfl (by decide +kernel) ⟨Nat.le_of_ble_eq_true rfl, Nat.le_of_ble_eq_true rfl⟩ rfl hl.1 rfl (Nat.le_of_ble_eq_true rfl) dX7_putIntoRow_43 ⟨Nat.le_of_ble_eq_true rfl, Nat.le_of_ble_eq_true rfl⟩) (fun r_17 u_18 H locs h_16 hw => ?_)
    subst h_16
    refine r_topv (y := .int (sA κ 2 (aN xc))) (congrArg _ (gN_in (by assumption) (by decide))) ?_
    refine lv_istore (lv' := [(5, .int (sA κ 2 (aN xc))), (4, .null), (3, .ref (ad (100 + 4 * (aN ((sA κ 3 (aN xb)) - 1))))), (0, .ref (ad 5)), (1, .ref (ad ρ)), (2, .int 3)]) hx hb dX7_putIntoRow_46 hl (by decide) rfl (fun ls hl => ?_)
    refine lv_aload_n hx hb dX7_putIntoRow_48 rfl (lv_at hl 2 rfl) ?_
    refine lv_iload_n hx hb dX7_putIntoRow_49 rfl (lv_at hl 5 rfl) ?_
    refine r_ki hw (r_runSN (rest := []) hC hw hw.1.2.1 lks_X7_putIntoRow lkz_X7_putIntoRow_94 (c_X8_misfits_3 l _ _ (100 + 4 * (aN ((sA κ 3 (aN xb)) - 1))) hk_b.1 hl_b hc_b) 2 gX7_putIntoRow_X8_misfits_n94 rfl rfl rfl (by decide +kernel) ⟨Nat.le_of_ble_eq_true rfl, Nat.le_of_ble_eq_true rfl⟩ rfl hl.1 rfl (Nat.le_of_ble_eq_true rfl) dX7_putIntoRow_50 ⟨Nat.le_of_ble_eq_true rfl, Nat.le_of_ble_eq_true rfl⟩) (fun r_20 u_21 H locs h_19 hw => ?_)
    by_cases c_22 : pOf (sA κ 4 (aN ((sA κ 3 (aN xb)) - 1))) 3
    · rw [if_pos c_22] at h_19
      subst h_19
      have w_23 : ¬ pWrong κ (sA κ 3 (aN xb)) 3 := fun h => h.2 c_22
      refine lv_if_ne (tgt := 76) hx hb dX7_putIntoRow_53 (by decide) (fun c_ => absurd (by decide) c_) (fun _ => ?_)
      refine lv_aloadN hx hb dX7_putIntoRow_56 (lv_at hl 1 rfl) ?_
      refine lv_iload_n hx hb dX7_putIntoRow_58 rfl (lv_at hl 5 rfl) ?_
      refine lv_bipush (v := 10) hx hb dX7_putIntoRow_59 (by decide) ?_
      refine lv_icmp_ne (tgt := 68) hx hb dX7_putIntoRow_61 (by decide) (fun _ => ?_) (fun c_ => absurd c_ (by decide))
      refine lv_bipush (v := 11) hx hb dX7_putIntoRow_68 (by decide) ?_
      refine r_ki hw (r_runSN (rest := []) hC hw hw.1.2.1 lks_X7_putIntoRow lkz_X7_putIntoRow_94 (c_X8_misfitsN_11 l _ _) 2 gX7_putIntoRow_X8_misfits_n94 rfl rfl rfl (by decide +kernel) ⟨Nat.le_of_ble_eq_true rfl, Nat.le_of_ble_eq_true rfl⟩ rfl hl.1 rfl (Nat.le_of_ble_eq_true rfl) dX7_putIntoRow_70 ⟨Nat.le_of_ble_eq_true rfl, Nat.le_of_ble_eq_true rfl⟩) (fun r_25 u_26 H locs h_24 hw => ?_)
      subst h_24
      refine lv_if_eq (tgt := 78) hx hb dX7_putIntoRow_73 (by decide) (fun _ => ?_) (fun c_ => absurd (by decide) c_)
      refine lv_aload_n hx hb dX7_putIntoRow_78 rfl (lv_at hl 2 rfl) ?_
      refine lv_ifnonnull (tgt := 84) hx hb dX7_putIntoRow_79 (by decide) ?_
      refine lv_aload_n hx hb dX7_putIntoRow_84 rfl (lv_at hl 2 rfl) ?_
      refine lv_iload hx hb dX7_putIntoRow_85 (lv_at hl 0 rfl) ?_
      refine r_ki hw (r_runV (rest := []) hC hw (100 + 4 * (aN ((sA κ 3 (aN xb)) - 1))) (c_X6_hasPlace l _ _ (100 + 4 * (aN ((sA κ 3 (aN xb)) - 1))) (sA κ 2 (aN xc)) hl_b hc_b) rk6 hl_b hc_b 1 gX7_putIntoRow_X6_hasPlace rfl rfl rfl (by decide +kernel) ⟨Nat.le_of_ble_eq_true rfl, Nat.le_of_ble_eq_true rfl⟩ rfl hl.1 rfl (Nat.le_of_ble_eq_true rfl) dX7_putIntoRow_87 ⟨Nat.le_of_ble_eq_true rfl, Nat.le_of_ble_eq_true rfl⟩) (fun r_29 u_30 H locs h_28 hw => ?_)
      rw [hp_eq hk_b.2] at h_28
      by_cases c_31 : pIn (sA κ 2 (aN xc)) 0 ((sA κ 5 (aN ((sA κ 3 (aN xb)) - 1))) - 1)
      · rw [if_pos c_31] at h_28
        subst h_28
        have hix := ixN hB_b.1 c_31 hk_b.2
        refine lv_if_ne (tgt := 95) hx hb dX7_putIntoRow_90 (by decide) (fun _ => ?_) (fun c_ => absurd c_ (by decide))
        refine lv_aload_n hx hb dX7_putIntoRow_95 rfl (lv_at hl 2 rfl) ?_
        refine r_get hC hw rk6 in_X7_putIntoRow_6 (100 + 4 * (aN ((sA κ 3 (aN xb)) - 1))) hl_b hc_b 0 (by decide) lk_X7_putIntoRow_145 (v := .int (sA κ 4 (aN ((sA κ 3 (aN xb)) - 1)))) rfl dX7_putIntoRow_96 ?_
        refine lv_bipush (v := 9) hx hb dX7_putIntoRow_99 (by decide) ?_
        refine lv_icmp_ne (tgt := 116) hx hb dX7_putIntoRow_101 (by decide) (fun _ => ?_) (fun c_ => absurd c_ (fun h => by rw [h] at c_22; exact absurd c_22 (by decide)))
        refine lv_iload_n hx hb dX7_putIntoRow_116 rfl (lv_at hl 5 rfl) ?_
        refine lv_iconst (v := 4) hx hb dX7_putIntoRow_117 (by decide) ?_
        refine lv_icmp_gt (tgt := 146) hx hb dX7_putIntoRow_118 (by decide) (fun c_ => absurd c_ (by decide)) (fun _ => ?_)
        refine lv_aload_n hx hb dX7_putIntoRow_121 rfl (lv_at hl 2 rfl) ?_
        refine lv_iload hx hb dX7_putIntoRow_122 (lv_at hl 0 rfl) ?_
        refine lv_iload_n hx hb dX7_putIntoRow_124 rfl (lv_at hl 5 rfl) ?_
        refine lv_aload_n hx hb dX7_putIntoRow_125 rfl (lv_at hl 3 rfl) ?_
        refine r_get hC hw rk7 in_X7_putIntoRow_7 5 (wXl 5 (by decide)) wXc5 0 (by decide) lk_X7_putIntoRow_9 (v := .ref (ad 2)) rfl dX7_putIntoRow_126 ?_
        refine lv_aload_n hx hb dX7_putIntoRow_129 rfl (lv_at hl 4 rfl) ?_
        refine r_get hC hw rk5 in_X7_putIntoRow_5 ρ hst.1 hst.2 1 (by decide) lk_X7_putIntoRow_69 (v := .int xa) rfl dX7_putIntoRow_130 ?_
        refine r_ki hw (r_runV (rest := [.int 3, .int (sA κ 2 (aN xc)), .ref (ad (100 + 4 * (aN ((sA κ 3 (aN xb)) - 1))))]) hC hw 2 (c_X3_getWord l _ _ 2 8 xa (wXl 2 (by decide)) wXc2 (wXl 8 (by decide)) wXc8) rk3 (wXl 2 (by decide)) wXc2 1 gX7_putIntoRow_X3_getWord rfl rfl rfl (by decide +kernel) ⟨Nat.le_of_ble_eq_true rfl, Nat.le_of_ble_eq_true rfl⟩ rfl hl.1 rfl (Nat.le_of_ble_eq_true rfl) dX7_putIntoRow_133 ⟨Nat.le_of_ble_eq_true rfl, Nat.le_of_ble_eq_true rfl⟩) (fun r_33 u_34 H locs h_32 hw => ?_)
        subst h_32
        refine r_topv (y := .int (sA κ 2 (aN xa))) (congrArg _ (gN_in (by assumption) (by decide))) ?_
        refine r_ki hw (r_runS (rest := [.int (sA κ 2 (aN xc)), .ref (ad (100 + 4 * (aN ((sA κ 3 (aN xb)) - 1))))]) hC hw (c_X7_narrow_3 l _ _ (sA κ 2 (aN xa))) 2 gX7_putIntoRow_X7_narrow rfl rfl rfl (by decide +kernel) ⟨Nat.le_of_ble_eq_true rfl, Nat.le_of_ble_eq_true rfl⟩ rfl hl.1 rfl (Nat.le_of_ble_eq_true rfl) dX7_putIntoRow_136 ⟨Nat.le_of_ble_eq_true rfl, Nat.le_of_ble_eq_true rfl⟩) (fun r_36 u_37 H locs h_35 hw => ?_)
        subst h_35
        refine lv_i2l (v := ((sA κ 2 (aN xa)).toInt16.toInt32).toInt64) hx hb dX7_putIntoRow_139 rfl ?_
        have hkd : sA κ 4 (aN ((sA κ 3 (aN xb)) - 1)) ≤ 5 := kd5 c_22
        refine r_kv hw (r_runV (rest := []) hC hw (100 + 4 * (aN ((sA κ 3 (aN xb)) - 1))) (c_X6_setNumber (x1 := .null) l _ _ (100 + 4 * (aN ((sA κ 3 (aN xb)) - 1))) (101 + 4 * (aN ((sA κ 3 (aN xb)) - 1))) (sA κ 2 (aN xc)) (((sA κ 2 (aN xa)).toInt16.toInt32).toInt64) (lnN_in hkd hix.2.2) (lnN_31 hk_b.2) hl_b hc_b (thl1 hB_b.2) (thc1 h6_b)) rk6 hl_b hc_b 2 gX7_putIntoRow_X6_setNumber rfl rfl rfl (by decide +kernel) ⟨Nat.le_of_ble_eq_true rfl, Nat.le_of_ble_eq_true rfl⟩ rfl hl.1 rfl (Nat.le_of_ble_eq_true rfl) dX7_putIntoRow_140 ⟨Nat.le_of_ble_eq_true rfl, Nat.le_of_ble_eq_true rfl⟩) (fun u_40 H locs h_38 hw => ?_)
        replace hw := xT_num h6_b hix.2.1 hw
        rw [← hix.1] at hw
        refine lv_goto (tgt := 232) hx hb dX7_putIntoRow_143 (by decide) ?_
        refine lv_iconst (v := 0) hx hb dX7_putIntoRow_232 (by decide) ?_
        exact r_iret hC hr hlk hw (uJ κ 1 (aN ((12 * ((sA κ 3 (aN xb)) - 1)) + (sA κ 2 (aN xc)))) (((sA κ 2 (aN xa)).toInt16.toInt32).toInt64)) rfl (doR0 (κ := κ) (hd := hd) (th := th) (k := 52) (a := xa) (b := xb) (c := xc) ((if_neg w_23).trans ((if_neg n_4).trans (if_pos c_31)))).symm (Nat.le_of_ble_eq_true rfl) (Nat.le_of_ble_eq_true rfl) dX7_putIntoRow_233
      · rw [if_neg c_31] at h_28
        subst h_28
        refine lv_if_ne (tgt := 95) hx hb dX7_putIntoRow_90 (by decide) (fun c_ => absurd (by decide) c_) (fun _ => ?_)
        refine lv_iconst (v := 2) hx hb dX7_putIntoRow_93 (by decide) ?_
        exact r_iret hC hr hlk hw κ rfl (doRf (κ := κ) (hd := hd) (th := th) (k := 52) (a := xa) (b := xb) (c := xc) ((if_neg w_23).trans ((if_neg n_4).trans (if_neg c_31))) (by decide)).symm (Nat.le_of_ble_eq_true rfl) (Nat.le_of_ble_eq_true rfl) dX7_putIntoRow_94
    · rw [if_neg c_22] at h_19
      subst h_19
      have w_41 : pWrong κ (sA κ 3 (aN xb)) 3 := ⟨n_4, c_22⟩
      refine lv_if_ne (tgt := 76) hx hb dX7_putIntoRow_53 (by decide) (fun _ => ?_) (fun c_ => absurd c_ (by decide))
      refine lv_iconst (v := 4) hx hb dX7_putIntoRow_76 (by decide) ?_
      exact r_iret hC hr hlk hw κ rfl (doRf (κ := κ) (hd := hd) (th := th) (k := 52) (a := xa) (b := xb) (c := xc) (if_pos w_41) (by decide)).symm (Nat.le_of_ble_eq_true rfl) (Nat.le_of_ble_eq_true rfl) dX7_putIntoRow_77

set_option maxHeartbeats 4000000 in
set_option maxRecDepth 100000 in
theorem c_X7_putIntoRow_53 (l : Launch) {D : va_G} {q : Nat → ClassId} {ad : Nat → Nat} {κ : KS} {τ : TAU} (sz : Nat) (ρ : Nat) (xa xb xc hd th : Int32) (hst : stepAt q ad κ τ ρ 53 xa xb xc) (hs : okStep 53 xa xb xc)(hX : WFx κ) (hN : nnOp κ 53 xa xb xc) : Met l yX7_putIntoRow wsX7_putIntoRow (rmz 2 42) (va_Pc [.ref (ad 5), .ref (ad ρ), .int 4] (rPre D q (wX q ad κ τ) sz)) (va_Qi (fun (r : Int32) (u : KS) => (r, u) = doR κ hd th 53 xa xb xc) (fun (u : KS) tt => rPo D (rA (wX q ad κ τ) sz) (wX q ad u τ) tt) (rA (wX q ad κ τ) sz)) 0 0 (rA (wX q ad κ τ) sz) := by
  have hi0 : vp_in xa 8 := hs.1
  have hi1 : vp_in xb 8 := hs.2.1
  have hi2 : vp_in xc 8 := hs.2.2
  refine r_start (cc := cX7_putIntoRow) (maxL := 6) (ret := (some .int)) (by decide) rfl (Nat.le_of_ble_eq_true rfl) ?_
  intro p e s m below meth c ls hC hr hlk hnm hsz hw hl
  have hx := hC.1
  have hb := hC.2.1
  have hl : lv_has ls 6 [(0, .ref (ad 5)), (1, .ref (ad ρ)), (2, .int 4)] := hl
  refine lv_aload_n hx hb dX7_putIntoRow_0 rfl (lv_at hl 0 rfl) ?_
  refine r_get hC hw rk7 in_X7_putIntoRow_7 5 (wXl 5 (by decide)) wXc5 0 (by decide) lk_X7_putIntoRow_9 (v := .ref (ad 2)) rfl dX7_putIntoRow_1 ?_
  refine lv_aload_n hx hb dX7_putIntoRow_4 rfl (lv_at hl 1 rfl) ?_
  refine r_get hC hw rk5 in_X7_putIntoRow_5 ρ hst.1 hst.2 2 (by decide) lk_X7_putIntoRow_74 (v := .int xb) rfl dX7_putIntoRow_5 ?_
  refine r_kq hw (r_runV (rest := []) hC hw 2 (c_X3_getThing l _ _ 2 12 xb (wXl 2 (by decide)) wXc2 (wXl 12 (by decide)) wXc12) rk3 (wXl 2 (by decide)) wXc2 1 gX7_putIntoRow_X3_getThing rfl rfl rfl (by decide +kernel) ⟨Nat.le_of_ble_eq_true rfl, Nat.le_of_ble_eq_true rfl⟩ rfl hl.1 rfl (Nat.le_of_ble_eq_true rfl) dX7_putIntoRow_8 ⟨Nat.le_of_ble_eq_true rfl, Nat.le_of_ble_eq_true rfl⟩) (fun r_2 u_3 H locs h_1 hw => ?_)
  subst h_1
  by_cases n_4 : (sA κ 3 (aN xb)) = 0
  · refine r_topv (y := .null) (by rw [gN_in (by assumption) (by decide)]; show va_rf ((rT (sA κ 3 (aN xb))).map ad) = _; rw [rT0 n_4]; rfl) ?_
    refine lv_astore_nN (lv' := [(3, .null), (0, .ref (ad 5)), (1, .ref (ad ρ)), (2, .int 4)]) hx hb dX7_putIntoRow_11 rfl hl (by decide) rfl (fun ls hl => ?_)
    refine lv_iload_n hx hb dX7_putIntoRow_12 rfl (lv_at hl 3 rfl) ?_
    refine lv_bipush (v := 8) hx hb dX7_putIntoRow_13 (by decide) ?_
    refine lv_icmp_lt (tgt := 32) hx hb dX7_putIntoRow_15 (by decide) (fun _ => ?_) (fun c_ => absurd (by decide) c_)
    refine lv_null hx hb dX7_putIntoRow_32 ?_
    refine lv_astoreN (lv' := [(4, .null), (3, .null), (0, .ref (ad 5)), (1, .ref (ad ρ)), (2, .int 4)]) hx hb dX7_putIntoRow_33 hl (by decide) rfl (fun ls hl => ?_)
    refine lv_aload_n hx hb dX7_putIntoRow_35 rfl (lv_at hl 2 rfl) ?_
    refine r_get hC hw rk7 in_X7_putIntoRow_7 5 (wXl 5 (by decide)) wXc5 0 (by decide) lk_X7_putIntoRow_9 (v := .ref (ad 2)) rfl dX7_putIntoRow_36 ?_
    refine lv_aload_n hx hb dX7_putIntoRow_39 rfl (lv_at hl 3 rfl) ?_
    refine r_get hC hw rk5 in_X7_putIntoRow_5 ρ hst.1 hst.2 3 (by decide) lk_X7_putIntoRow_57 (v := .int xc) rfl dX7_putIntoRow_40 ?_
    refine r_ki hw (r_runV (rest := []) hC hw 2 (c_X3_getWord l _ _ 2 8 xc (wXl 2 (by decide)) wXc2 (wXl 8 (by decide)) wXc8) rk3 (wXl 2 (by decide)) wXc2 1 gX7_putIntoRow_X3_getWord rfl rfl rfl (by decide +kernel) ⟨Nat.le_of_ble_eq_true rfl, Nat.le_of_ble_eq_true rfl⟩ rfl hl.1 rfl (Nat.le_of_ble_eq_true rfl) dX7_putIntoRow_43 ⟨Nat.le_of_ble_eq_true rfl, Nat.le_of_ble_eq_true rfl⟩) (fun r_6 u_7 H locs h_5 hw => ?_)
    subst h_5
    refine r_topv (y := .int (sA κ 2 (aN xc))) (congrArg _ (gN_in (by assumption) (by decide))) ?_
    refine lv_istore (lv' := [(5, .int (sA κ 2 (aN xc))), (4, .null), (3, .null), (0, .ref (ad 5)), (1, .ref (ad ρ)), (2, .int 4)]) hx hb dX7_putIntoRow_46 hl (by decide) rfl (fun ls hl => ?_)
    refine lv_aload_nN hx hb dX7_putIntoRow_48 rfl (lv_at hl 2 rfl) ?_
    refine lv_iload_n hx hb dX7_putIntoRow_49 rfl (lv_at hl 5 rfl) ?_
    refine r_ki hw (r_runSN (rest := []) hC hw hw.1.2.1 lks_X7_putIntoRow lkz_X7_putIntoRow_94 (c_X8_misfitsN_4 l _ _) 2 gX7_putIntoRow_X8_misfits_n94 rfl rfl rfl (by decide +kernel) ⟨Nat.le_of_ble_eq_true rfl, Nat.le_of_ble_eq_true rfl⟩ rfl hl.1 rfl (Nat.le_of_ble_eq_true rfl) dX7_putIntoRow_50 ⟨Nat.le_of_ble_eq_true rfl, Nat.le_of_ble_eq_true rfl⟩) (fun r_9 u_10 H locs h_8 hw => ?_)
    subst h_8
    have w_11 : ¬ pWrong κ (sA κ 3 (aN xb)) 4 := fun h => h.1 n_4
    refine lv_if_ne (tgt := 76) hx hb dX7_putIntoRow_53 (by decide) (fun c_ => absurd (by decide) c_) (fun _ => ?_)
    refine lv_aloadN hx hb dX7_putIntoRow_56 (lv_at hl 1 rfl) ?_
    refine lv_iload_n hx hb dX7_putIntoRow_58 rfl (lv_at hl 5 rfl) ?_
    refine lv_bipush (v := 10) hx hb dX7_putIntoRow_59 (by decide) ?_
    refine lv_icmp_ne (tgt := 68) hx hb dX7_putIntoRow_61 (by decide) (fun _ => ?_) (fun c_ => absurd c_ (by decide))
    refine lv_bipush (v := 11) hx hb dX7_putIntoRow_68 (by decide) ?_
    refine r_ki hw (r_runSN (rest := []) hC hw hw.1.2.1 lks_X7_putIntoRow lkz_X7_putIntoRow_94 (c_X8_misfitsN_11 l _ _) 2 gX7_putIntoRow_X8_misfits_n94 rfl rfl rfl (by decide +kernel) ⟨Nat.le_of_ble_eq_true rfl, Nat.le_of_ble_eq_true rfl⟩ rfl hl.1 rfl (Nat.le_of_ble_eq_true rfl) dX7_putIntoRow_70 ⟨Nat.le_of_ble_eq_true rfl, Nat.le_of_ble_eq_true rfl⟩) (fun r_13 u_14 H locs h_12 hw => ?_)
    subst h_12
    refine lv_if_eq (tgt := 78) hx hb dX7_putIntoRow_73 (by decide) (fun _ => ?_) (fun c_ => absurd (by decide) c_)
    refine lv_aload_nN hx hb dX7_putIntoRow_78 rfl (lv_at hl 2 rfl) ?_
    refine lv_ifnonnullN hx hb dX7_putIntoRow_79 ?_
    refine lv_iconst (v := 1) hx hb dX7_putIntoRow_82 (by decide) ?_
    exact r_iret hC hr hlk hw κ rfl (doRf (κ := κ) (hd := hd) (th := th) (k := 53) (a := xa) (b := xb) (c := xc) ((if_neg w_11).trans (if_pos n_4)) (by decide)).symm (Nat.le_of_ble_eq_true rfl) (Nat.le_of_ble_eq_true rfl) dX7_putIntoRow_83
  · refine r_topv (y := .ref (ad (100 + 4 * (aN ((sA κ 3 (aN xb)) - 1))))) (by rw [gN_in (by assumption) (by decide)]; show va_rf ((rT (sA κ 3 (aN xb))).map ad) = _; rw [rT1 n_4]; rfl) ?_
    have hB_b := hX.2.1 xb (by assumption) n_4
    have h6_b : (aN ((sA κ 3 (aN xb)) - 1)) < 60 := Nat.lt_of_lt_of_le hB_b.2 hX.1
    have hl_b : (wX q ad κ τ).2.1 (100 + 4 * (aN ((sA κ 3 (aN xb)) - 1))) := thl hB_b.2
    have hc_b : (wX q ad κ τ).2.2 (100 + 4 * (aN ((sA κ 3 (aN xb)) - 1))) = .inr (6, fsT ad κ (aN ((sA κ 3 (aN xb)) - 1))) := thc h6_b
    have hk_b := hX.2.2.1 _ hB_b.2
    refine lv_astore_n (lv' := [(3, .ref (ad (100 + 4 * (aN ((sA κ 3 (aN xb)) - 1))))), (0, .ref (ad 5)), (1, .ref (ad ρ)), (2, .int 4)]) hx hb dX7_putIntoRow_11 rfl hl (by decide) rfl (fun ls hl => ?_)
    refine lv_iload_n hx hb dX7_putIntoRow_12 rfl (lv_at hl 3 rfl) ?_
    refine lv_bipush (v := 8) hx hb dX7_putIntoRow_13 (by decide) ?_
    refine lv_icmp_lt (tgt := 32) hx hb dX7_putIntoRow_15 (by decide) (fun _ => ?_) (fun c_ => absurd (by decide) c_)
    refine lv_null hx hb dX7_putIntoRow_32 ?_
    refine lv_astoreN (lv' := [(4, .null), (3, .ref (ad (100 + 4 * (aN ((sA κ 3 (aN xb)) - 1))))), (0, .ref (ad 5)), (1, .ref (ad ρ)), (2, .int 4)]) hx hb dX7_putIntoRow_33 hl (by decide) rfl (fun ls hl => ?_)
    refine lv_aload_n hx hb dX7_putIntoRow_35 rfl (lv_at hl 2 rfl) ?_
    refine r_get hC hw rk7 in_X7_putIntoRow_7 5 (wXl 5 (by decide)) wXc5 0 (by decide) lk_X7_putIntoRow_9 (v := .ref (ad 2)) rfl dX7_putIntoRow_36 ?_
    refine lv_aload_n hx hb dX7_putIntoRow_39 rfl (lv_at hl 3 rfl) ?_
    refine r_get hC hw rk5 in_X7_putIntoRow_5 ρ hst.1 hst.2 3 (by decide) lk_X7_putIntoRow_57 (v := .int xc) rfl dX7_putIntoRow_40 ?_
    refine r_ki hw (r_runV (rest := []) hC hw 2 (c_X3_getWord l _ _ 2 8 xc (wXl 2 (by decide)) wXc2 (wXl 8 (by decide)) wXc8) rk3 (wXl 2 (by decide)) wXc2 1 gX7_putIntoRow_X3_getWord rfl rfl rfl (by decide +kernel) ⟨Nat.le_of_ble_eq_true rfl, Nat.le_of_ble_eq_true rfl⟩ rfl hl.1 rfl (Nat.le_of_ble_eq_true rfl) dX7_putIntoRow_43 ⟨Nat.le_of_ble_eq_true rfl, Nat.le_of_ble_eq_true rfl⟩) (fun r_17 u_18 H locs h_16 hw => ?_)
    subst h_16
    refine r_topv (y := .int (sA κ 2 (aN xc))) (congrArg _ (gN_in (by assumption) (by decide))) ?_
    refine lv_istore (lv' := [(5, .int (sA κ 2 (aN xc))), (4, .null), (3, .ref (ad (100 + 4 * (aN ((sA κ 3 (aN xb)) - 1))))), (0, .ref (ad 5)), (1, .ref (ad ρ)), (2, .int 4)]) hx hb dX7_putIntoRow_46 hl (by decide) rfl (fun ls hl => ?_)
    refine lv_aload_n hx hb dX7_putIntoRow_48 rfl (lv_at hl 2 rfl) ?_
    refine lv_iload_n hx hb dX7_putIntoRow_49 rfl (lv_at hl 5 rfl) ?_
    refine r_ki hw (r_runSN (rest := []) hC hw hw.1.2.1 lks_X7_putIntoRow lkz_X7_putIntoRow_94 (c_X8_misfits_4 l _ _ (100 + 4 * (aN ((sA κ 3 (aN xb)) - 1))) hk_b.1 hl_b hc_b) 2 gX7_putIntoRow_X8_misfits_n94 rfl rfl rfl (by decide +kernel) ⟨Nat.le_of_ble_eq_true rfl, Nat.le_of_ble_eq_true rfl⟩ rfl hl.1 rfl (Nat.le_of_ble_eq_true rfl) dX7_putIntoRow_50 ⟨Nat.le_of_ble_eq_true rfl, Nat.le_of_ble_eq_true rfl⟩) (fun r_20 u_21 H locs h_19 hw => ?_)
    by_cases c_22 : pOf (sA κ 4 (aN ((sA κ 3 (aN xb)) - 1))) 4
    · rw [if_pos c_22] at h_19
      subst h_19
      have w_23 : ¬ pWrong κ (sA κ 3 (aN xb)) 4 := fun h => h.2 c_22
      refine lv_if_ne (tgt := 76) hx hb dX7_putIntoRow_53 (by decide) (fun c_ => absurd (by decide) c_) (fun _ => ?_)
      refine lv_aloadN hx hb dX7_putIntoRow_56 (lv_at hl 1 rfl) ?_
      refine lv_iload_n hx hb dX7_putIntoRow_58 rfl (lv_at hl 5 rfl) ?_
      refine lv_bipush (v := 10) hx hb dX7_putIntoRow_59 (by decide) ?_
      refine lv_icmp_ne (tgt := 68) hx hb dX7_putIntoRow_61 (by decide) (fun _ => ?_) (fun c_ => absurd c_ (by decide))
      refine lv_bipush (v := 11) hx hb dX7_putIntoRow_68 (by decide) ?_
      refine r_ki hw (r_runSN (rest := []) hC hw hw.1.2.1 lks_X7_putIntoRow lkz_X7_putIntoRow_94 (c_X8_misfitsN_11 l _ _) 2 gX7_putIntoRow_X8_misfits_n94 rfl rfl rfl (by decide +kernel) ⟨Nat.le_of_ble_eq_true rfl, Nat.le_of_ble_eq_true rfl⟩ rfl hl.1 rfl (Nat.le_of_ble_eq_true rfl) dX7_putIntoRow_70 ⟨Nat.le_of_ble_eq_true rfl, Nat.le_of_ble_eq_true rfl⟩) (fun r_25 u_26 H locs h_24 hw => ?_)
      subst h_24
      refine lv_if_eq (tgt := 78) hx hb dX7_putIntoRow_73 (by decide) (fun _ => ?_) (fun c_ => absurd (by decide) c_)
      refine lv_aload_n hx hb dX7_putIntoRow_78 rfl (lv_at hl 2 rfl) ?_
      refine lv_ifnonnull (tgt := 84) hx hb dX7_putIntoRow_79 (by decide) ?_
      refine lv_aload_n hx hb dX7_putIntoRow_84 rfl (lv_at hl 2 rfl) ?_
      refine lv_iload hx hb dX7_putIntoRow_85 (lv_at hl 0 rfl) ?_
      refine r_ki hw (r_runV (rest := []) hC hw (100 + 4 * (aN ((sA κ 3 (aN xb)) - 1))) (c_X6_hasPlace l _ _ (100 + 4 * (aN ((sA κ 3 (aN xb)) - 1))) (sA κ 2 (aN xc)) hl_b hc_b) rk6 hl_b hc_b 1 gX7_putIntoRow_X6_hasPlace rfl rfl rfl (by decide +kernel) ⟨Nat.le_of_ble_eq_true rfl, Nat.le_of_ble_eq_true rfl⟩ rfl hl.1 rfl (Nat.le_of_ble_eq_true rfl) dX7_putIntoRow_87 ⟨Nat.le_of_ble_eq_true rfl, Nat.le_of_ble_eq_true rfl⟩) (fun r_29 u_30 H locs h_28 hw => ?_)
      rw [hp_eq hk_b.2] at h_28
      by_cases c_31 : pIn (sA κ 2 (aN xc)) 0 ((sA κ 5 (aN ((sA κ 3 (aN xb)) - 1))) - 1)
      · rw [if_pos c_31] at h_28
        subst h_28
        have hix := ixN hB_b.1 c_31 hk_b.2
        refine lv_if_ne (tgt := 95) hx hb dX7_putIntoRow_90 (by decide) (fun _ => ?_) (fun c_ => absurd c_ (by decide))
        refine lv_aload_n hx hb dX7_putIntoRow_95 rfl (lv_at hl 2 rfl) ?_
        refine r_get hC hw rk6 in_X7_putIntoRow_6 (100 + 4 * (aN ((sA κ 3 (aN xb)) - 1))) hl_b hc_b 0 (by decide) lk_X7_putIntoRow_145 (v := .int (sA κ 4 (aN ((sA κ 3 (aN xb)) - 1)))) rfl dX7_putIntoRow_96 ?_
        refine lv_bipush (v := 9) hx hb dX7_putIntoRow_99 (by decide) ?_
        refine lv_icmp_ne (tgt := 116) hx hb dX7_putIntoRow_101 (by decide) (fun _ => ?_) (fun c_ => absurd c_ (fun h => by rw [h] at c_22; exact absurd c_22 (by decide)))
        refine lv_iload_n hx hb dX7_putIntoRow_116 rfl (lv_at hl 5 rfl) ?_
        refine lv_iconst (v := 4) hx hb dX7_putIntoRow_117 (by decide) ?_
        refine lv_icmp_gt (tgt := 146) hx hb dX7_putIntoRow_118 (by decide) (fun c_ => absurd c_ (by decide)) (fun _ => ?_)
        refine lv_aload_n hx hb dX7_putIntoRow_121 rfl (lv_at hl 2 rfl) ?_
        refine lv_iload hx hb dX7_putIntoRow_122 (lv_at hl 0 rfl) ?_
        refine lv_iload_n hx hb dX7_putIntoRow_124 rfl (lv_at hl 5 rfl) ?_
        refine lv_aload_n hx hb dX7_putIntoRow_125 rfl (lv_at hl 3 rfl) ?_
        refine r_get hC hw rk7 in_X7_putIntoRow_7 5 (wXl 5 (by decide)) wXc5 0 (by decide) lk_X7_putIntoRow_9 (v := .ref (ad 2)) rfl dX7_putIntoRow_126 ?_
        refine lv_aload_n hx hb dX7_putIntoRow_129 rfl (lv_at hl 4 rfl) ?_
        refine r_get hC hw rk5 in_X7_putIntoRow_5 ρ hst.1 hst.2 1 (by decide) lk_X7_putIntoRow_69 (v := .int xa) rfl dX7_putIntoRow_130 ?_
        refine r_ki hw (r_runV (rest := [.int 4, .int (sA κ 2 (aN xc)), .ref (ad (100 + 4 * (aN ((sA κ 3 (aN xb)) - 1))))]) hC hw 2 (c_X3_getWord l _ _ 2 8 xa (wXl 2 (by decide)) wXc2 (wXl 8 (by decide)) wXc8) rk3 (wXl 2 (by decide)) wXc2 1 gX7_putIntoRow_X3_getWord rfl rfl rfl (by decide +kernel) ⟨Nat.le_of_ble_eq_true rfl, Nat.le_of_ble_eq_true rfl⟩ rfl hl.1 rfl (Nat.le_of_ble_eq_true rfl) dX7_putIntoRow_133 ⟨Nat.le_of_ble_eq_true rfl, Nat.le_of_ble_eq_true rfl⟩) (fun r_33 u_34 H locs h_32 hw => ?_)
        subst h_32
        refine r_topv (y := .int (sA κ 2 (aN xa))) (congrArg _ (gN_in (by assumption) (by decide))) ?_
        refine r_ki hw (r_runS (rest := [.int (sA κ 2 (aN xc)), .ref (ad (100 + 4 * (aN ((sA κ 3 (aN xb)) - 1))))]) hC hw (c_X7_narrow_4 l _ _ (sA κ 2 (aN xa))) 2 gX7_putIntoRow_X7_narrow rfl rfl rfl (by decide +kernel) ⟨Nat.le_of_ble_eq_true rfl, Nat.le_of_ble_eq_true rfl⟩ rfl hl.1 rfl (Nat.le_of_ble_eq_true rfl) dX7_putIntoRow_136 ⟨Nat.le_of_ble_eq_true rfl, Nat.le_of_ble_eq_true rfl⟩) (fun r_36 u_37 H locs h_35 hw => ?_)
        subst h_35
        refine lv_i2l (v := (sA κ 2 (aN xa)).toInt64) hx hb dX7_putIntoRow_139 rfl ?_
        have hkd : sA κ 4 (aN ((sA κ 3 (aN xb)) - 1)) ≤ 5 := kd5 c_22
        refine r_kv hw (r_runV (rest := []) hC hw (100 + 4 * (aN ((sA κ 3 (aN xb)) - 1))) (c_X6_setNumber (x1 := .null) l _ _ (100 + 4 * (aN ((sA κ 3 (aN xb)) - 1))) (101 + 4 * (aN ((sA κ 3 (aN xb)) - 1))) (sA κ 2 (aN xc)) ((sA κ 2 (aN xa)).toInt64) (lnN_in hkd hix.2.2) (lnN_31 hk_b.2) hl_b hc_b (thl1 hB_b.2) (thc1 h6_b)) rk6 hl_b hc_b 2 gX7_putIntoRow_X6_setNumber rfl rfl rfl (by decide +kernel) ⟨Nat.le_of_ble_eq_true rfl, Nat.le_of_ble_eq_true rfl⟩ rfl hl.1 rfl (Nat.le_of_ble_eq_true rfl) dX7_putIntoRow_140 ⟨Nat.le_of_ble_eq_true rfl, Nat.le_of_ble_eq_true rfl⟩) (fun u_40 H locs h_38 hw => ?_)
        replace hw := xT_num h6_b hix.2.1 hw
        rw [← hix.1] at hw
        refine lv_goto (tgt := 232) hx hb dX7_putIntoRow_143 (by decide) ?_
        refine lv_iconst (v := 0) hx hb dX7_putIntoRow_232 (by decide) ?_
        exact r_iret hC hr hlk hw (uJ κ 1 (aN ((12 * ((sA κ 3 (aN xb)) - 1)) + (sA κ 2 (aN xc)))) ((sA κ 2 (aN xa)).toInt64)) rfl (doR0 (κ := κ) (hd := hd) (th := th) (k := 53) (a := xa) (b := xb) (c := xc) ((if_neg w_23).trans ((if_neg n_4).trans (if_pos c_31)))).symm (Nat.le_of_ble_eq_true rfl) (Nat.le_of_ble_eq_true rfl) dX7_putIntoRow_233
      · rw [if_neg c_31] at h_28
        subst h_28
        refine lv_if_ne (tgt := 95) hx hb dX7_putIntoRow_90 (by decide) (fun c_ => absurd (by decide) c_) (fun _ => ?_)
        refine lv_iconst (v := 2) hx hb dX7_putIntoRow_93 (by decide) ?_
        exact r_iret hC hr hlk hw κ rfl (doRf (κ := κ) (hd := hd) (th := th) (k := 53) (a := xa) (b := xb) (c := xc) ((if_neg w_23).trans ((if_neg n_4).trans (if_neg c_31))) (by decide)).symm (Nat.le_of_ble_eq_true rfl) (Nat.le_of_ble_eq_true rfl) dX7_putIntoRow_94
    · rw [if_neg c_22] at h_19
      subst h_19
      have w_41 : pWrong κ (sA κ 3 (aN xb)) 4 := ⟨n_4, c_22⟩
      refine lv_if_ne (tgt := 76) hx hb dX7_putIntoRow_53 (by decide) (fun _ => ?_) (fun c_ => absurd c_ (by decide))
      refine lv_iconst (v := 4) hx hb dX7_putIntoRow_76 (by decide) ?_
      exact r_iret hC hr hlk hw κ rfl (doRf (κ := κ) (hd := hd) (th := th) (k := 53) (a := xa) (b := xb) (c := xc) (if_pos w_41) (by decide)).symm (Nat.le_of_ble_eq_true rfl) (Nat.le_of_ble_eq_true rfl) dX7_putIntoRow_77

set_option maxHeartbeats 4000000 in
set_option maxRecDepth 100000 in
theorem c_X7_putIntoRow_54 (l : Launch) {D : va_G} {q : Nat → ClassId} {ad : Nat → Nat} {κ : KS} {τ : TAU} (sz : Nat) (ρ : Nat) (xa xb xc hd th : Int32) (hst : stepAt q ad κ τ ρ 54 xa xb xc) (hs : okStep 54 xa xb xc)(hX : WFx κ) (hN : nnOp κ 54 xa xb xc) : Met l yX7_putIntoRow wsX7_putIntoRow (rmz 2 42) (va_Pc [.ref (ad 5), .ref (ad ρ), .int 5] (rPre D q (wX q ad κ τ) sz)) (va_Qi (fun (r : Int32) (u : KS) => (r, u) = doR κ hd th 54 xa xb xc) (fun (u : KS) tt => rPo D (rA (wX q ad κ τ) sz) (wX q ad u τ) tt) (rA (wX q ad κ τ) sz)) 0 0 (rA (wX q ad κ τ) sz) := by
  have hi0 : vp_in xa 4 := hs.1
  have hi1 : vp_in xb 8 := hs.2.1
  have hi2 : vp_in xc 8 := hs.2.2
  refine r_start (cc := cX7_putIntoRow) (maxL := 6) (ret := (some .int)) (by decide) rfl (Nat.le_of_ble_eq_true rfl) ?_
  intro p e s m below meth c ls hC hr hlk hnm hsz hw hl
  have hx := hC.1
  have hb := hC.2.1
  have hl : lv_has ls 6 [(0, .ref (ad 5)), (1, .ref (ad ρ)), (2, .int 5)] := hl
  refine lv_aload_n hx hb dX7_putIntoRow_0 rfl (lv_at hl 0 rfl) ?_
  refine r_get hC hw rk7 in_X7_putIntoRow_7 5 (wXl 5 (by decide)) wXc5 0 (by decide) lk_X7_putIntoRow_9 (v := .ref (ad 2)) rfl dX7_putIntoRow_1 ?_
  refine lv_aload_n hx hb dX7_putIntoRow_4 rfl (lv_at hl 1 rfl) ?_
  refine r_get hC hw rk5 in_X7_putIntoRow_5 ρ hst.1 hst.2 2 (by decide) lk_X7_putIntoRow_74 (v := .int xb) rfl dX7_putIntoRow_5 ?_
  refine r_kq hw (r_runV (rest := []) hC hw 2 (c_X3_getThing l _ _ 2 12 xb (wXl 2 (by decide)) wXc2 (wXl 12 (by decide)) wXc12) rk3 (wXl 2 (by decide)) wXc2 1 gX7_putIntoRow_X3_getThing rfl rfl rfl (by decide +kernel) ⟨Nat.le_of_ble_eq_true rfl, Nat.le_of_ble_eq_true rfl⟩ rfl hl.1 rfl (Nat.le_of_ble_eq_true rfl) dX7_putIntoRow_8 ⟨Nat.le_of_ble_eq_true rfl, Nat.le_of_ble_eq_true rfl⟩) (fun r_2 u_3 H locs h_1 hw => ?_)
  subst h_1
  by_cases n_4 : (sA κ 3 (aN xb)) = 0
  · refine r_topv (y := .null) (by rw [gN_in (by assumption) (by decide)]; show va_rf ((rT (sA κ 3 (aN xb))).map ad) = _; rw [rT0 n_4]; rfl) ?_
    refine lv_astore_nN (lv' := [(3, .null), (0, .ref (ad 5)), (1, .ref (ad ρ)), (2, .int 5)]) hx hb dX7_putIntoRow_11 rfl hl (by decide) rfl (fun ls hl => ?_)
    refine lv_iload_n hx hb dX7_putIntoRow_12 rfl (lv_at hl 3 rfl) ?_
    refine lv_bipush (v := 8) hx hb dX7_putIntoRow_13 (by decide) ?_
    refine lv_icmp_lt (tgt := 32) hx hb dX7_putIntoRow_15 (by decide) (fun _ => ?_) (fun c_ => absurd (by decide) c_)
    refine lv_null hx hb dX7_putIntoRow_32 ?_
    refine lv_astoreN (lv' := [(4, .null), (3, .null), (0, .ref (ad 5)), (1, .ref (ad ρ)), (2, .int 5)]) hx hb dX7_putIntoRow_33 hl (by decide) rfl (fun ls hl => ?_)
    refine lv_aload_n hx hb dX7_putIntoRow_35 rfl (lv_at hl 2 rfl) ?_
    refine r_get hC hw rk7 in_X7_putIntoRow_7 5 (wXl 5 (by decide)) wXc5 0 (by decide) lk_X7_putIntoRow_9 (v := .ref (ad 2)) rfl dX7_putIntoRow_36 ?_
    refine lv_aload_n hx hb dX7_putIntoRow_39 rfl (lv_at hl 3 rfl) ?_
    refine r_get hC hw rk5 in_X7_putIntoRow_5 ρ hst.1 hst.2 3 (by decide) lk_X7_putIntoRow_57 (v := .int xc) rfl dX7_putIntoRow_40 ?_
    refine r_ki hw (r_runV (rest := []) hC hw 2 (c_X3_getWord l _ _ 2 8 xc (wXl 2 (by decide)) wXc2 (wXl 8 (by decide)) wXc8) rk3 (wXl 2 (by decide)) wXc2 1 gX7_putIntoRow_X3_getWord rfl rfl rfl (by decide +kernel) ⟨Nat.le_of_ble_eq_true rfl, Nat.le_of_ble_eq_true rfl⟩ rfl hl.1 rfl (Nat.le_of_ble_eq_true rfl) dX7_putIntoRow_43 ⟨Nat.le_of_ble_eq_true rfl, Nat.le_of_ble_eq_true rfl⟩) (fun r_6 u_7 H locs h_5 hw => ?_)
    subst h_5
    refine r_topv (y := .int (sA κ 2 (aN xc))) (congrArg _ (gN_in (by assumption) (by decide))) ?_
    refine lv_istore (lv' := [(5, .int (sA κ 2 (aN xc))), (4, .null), (3, .null), (0, .ref (ad 5)), (1, .ref (ad ρ)), (2, .int 5)]) hx hb dX7_putIntoRow_46 hl (by decide) rfl (fun ls hl => ?_)
    refine lv_aload_nN hx hb dX7_putIntoRow_48 rfl (lv_at hl 2 rfl) ?_
    refine lv_iload_n hx hb dX7_putIntoRow_49 rfl (lv_at hl 5 rfl) ?_
    refine r_ki hw (r_runSN (rest := []) hC hw hw.1.2.1 lks_X7_putIntoRow lkz_X7_putIntoRow_94 (c_X8_misfitsN_5 l _ _) 2 gX7_putIntoRow_X8_misfits_n94 rfl rfl rfl (by decide +kernel) ⟨Nat.le_of_ble_eq_true rfl, Nat.le_of_ble_eq_true rfl⟩ rfl hl.1 rfl (Nat.le_of_ble_eq_true rfl) dX7_putIntoRow_50 ⟨Nat.le_of_ble_eq_true rfl, Nat.le_of_ble_eq_true rfl⟩) (fun r_9 u_10 H locs h_8 hw => ?_)
    subst h_8
    have w_11 : ¬ pWrong κ (sA κ 3 (aN xb)) 5 := fun h => h.1 n_4
    refine lv_if_ne (tgt := 76) hx hb dX7_putIntoRow_53 (by decide) (fun c_ => absurd (by decide) c_) (fun _ => ?_)
    refine lv_aloadN hx hb dX7_putIntoRow_56 (lv_at hl 1 rfl) ?_
    refine lv_iload_n hx hb dX7_putIntoRow_58 rfl (lv_at hl 5 rfl) ?_
    refine lv_bipush (v := 10) hx hb dX7_putIntoRow_59 (by decide) ?_
    refine lv_icmp_ne (tgt := 68) hx hb dX7_putIntoRow_61 (by decide) (fun _ => ?_) (fun c_ => absurd c_ (by decide))
    refine lv_bipush (v := 11) hx hb dX7_putIntoRow_68 (by decide) ?_
    refine r_ki hw (r_runSN (rest := []) hC hw hw.1.2.1 lks_X7_putIntoRow lkz_X7_putIntoRow_94 (c_X8_misfitsN_11 l _ _) 2 gX7_putIntoRow_X8_misfits_n94 rfl rfl rfl (by decide +kernel) ⟨Nat.le_of_ble_eq_true rfl, Nat.le_of_ble_eq_true rfl⟩ rfl hl.1 rfl (Nat.le_of_ble_eq_true rfl) dX7_putIntoRow_70 ⟨Nat.le_of_ble_eq_true rfl, Nat.le_of_ble_eq_true rfl⟩) (fun r_13 u_14 H locs h_12 hw => ?_)
    subst h_12
    refine lv_if_eq (tgt := 78) hx hb dX7_putIntoRow_73 (by decide) (fun _ => ?_) (fun c_ => absurd (by decide) c_)
    refine lv_aload_nN hx hb dX7_putIntoRow_78 rfl (lv_at hl 2 rfl) ?_
    refine lv_ifnonnullN hx hb dX7_putIntoRow_79 ?_
    refine lv_iconst (v := 1) hx hb dX7_putIntoRow_82 (by decide) ?_
    exact r_iret hC hr hlk hw κ rfl (doRf (κ := κ) (hd := hd) (th := th) (k := 54) (a := xa) (b := xb) (c := xc) ((if_neg w_11).trans (if_pos n_4)) (by decide)).symm (Nat.le_of_ble_eq_true rfl) (Nat.le_of_ble_eq_true rfl) dX7_putIntoRow_83
  · refine r_topv (y := .ref (ad (100 + 4 * (aN ((sA κ 3 (aN xb)) - 1))))) (by rw [gN_in (by assumption) (by decide)]; show va_rf ((rT (sA κ 3 (aN xb))).map ad) = _; rw [rT1 n_4]; rfl) ?_
    have hB_b := hX.2.1 xb (by assumption) n_4
    have h6_b : (aN ((sA κ 3 (aN xb)) - 1)) < 60 := Nat.lt_of_lt_of_le hB_b.2 hX.1
    have hl_b : (wX q ad κ τ).2.1 (100 + 4 * (aN ((sA κ 3 (aN xb)) - 1))) := thl hB_b.2
    have hc_b : (wX q ad κ τ).2.2 (100 + 4 * (aN ((sA κ 3 (aN xb)) - 1))) = .inr (6, fsT ad κ (aN ((sA κ 3 (aN xb)) - 1))) := thc h6_b
    have hk_b := hX.2.2.1 _ hB_b.2
    refine lv_astore_n (lv' := [(3, .ref (ad (100 + 4 * (aN ((sA κ 3 (aN xb)) - 1))))), (0, .ref (ad 5)), (1, .ref (ad ρ)), (2, .int 5)]) hx hb dX7_putIntoRow_11 rfl hl (by decide) rfl (fun ls hl => ?_)
    refine lv_iload_n hx hb dX7_putIntoRow_12 rfl (lv_at hl 3 rfl) ?_
    refine lv_bipush (v := 8) hx hb dX7_putIntoRow_13 (by decide) ?_
    refine lv_icmp_lt (tgt := 32) hx hb dX7_putIntoRow_15 (by decide) (fun _ => ?_) (fun c_ => absurd (by decide) c_)
    refine lv_null hx hb dX7_putIntoRow_32 ?_
    refine lv_astoreN (lv' := [(4, .null), (3, .ref (ad (100 + 4 * (aN ((sA κ 3 (aN xb)) - 1))))), (0, .ref (ad 5)), (1, .ref (ad ρ)), (2, .int 5)]) hx hb dX7_putIntoRow_33 hl (by decide) rfl (fun ls hl => ?_)
    refine lv_aload_n hx hb dX7_putIntoRow_35 rfl (lv_at hl 2 rfl) ?_
    refine r_get hC hw rk7 in_X7_putIntoRow_7 5 (wXl 5 (by decide)) wXc5 0 (by decide) lk_X7_putIntoRow_9 (v := .ref (ad 2)) rfl dX7_putIntoRow_36 ?_
    refine lv_aload_n hx hb dX7_putIntoRow_39 rfl (lv_at hl 3 rfl) ?_
    refine r_get hC hw rk5 in_X7_putIntoRow_5 ρ hst.1 hst.2 3 (by decide) lk_X7_putIntoRow_57 (v := .int xc) rfl dX7_putIntoRow_40 ?_
    refine r_ki hw (r_runV (rest := []) hC hw 2 (c_X3_getWord l _ _ 2 8 xc (wXl 2 (by decide)) wXc2 (wXl 8 (by decide)) wXc8) rk3 (wXl 2 (by decide)) wXc2 1 gX7_putIntoRow_X3_getWord rfl rfl rfl (by decide +kernel) ⟨Nat.le_of_ble_eq_true rfl, Nat.le_of_ble_eq_true rfl⟩ rfl hl.1 rfl (Nat.le_of_ble_eq_true rfl) dX7_putIntoRow_43 ⟨Nat.le_of_ble_eq_true rfl, Nat.le_of_ble_eq_true rfl⟩) (fun r_17 u_18 H locs h_16 hw => ?_)
    subst h_16
    refine r_topv (y := .int (sA κ 2 (aN xc))) (congrArg _ (gN_in (by assumption) (by decide))) ?_
    refine lv_istore (lv' := [(5, .int (sA κ 2 (aN xc))), (4, .null), (3, .ref (ad (100 + 4 * (aN ((sA κ 3 (aN xb)) - 1))))), (0, .ref (ad 5)), (1, .ref (ad ρ)), (2, .int 5)]) hx hb dX7_putIntoRow_46 hl (by decide) rfl (fun ls hl => ?_)
    refine lv_aload_n hx hb dX7_putIntoRow_48 rfl (lv_at hl 2 rfl) ?_
    refine lv_iload_n hx hb dX7_putIntoRow_49 rfl (lv_at hl 5 rfl) ?_
    refine r_ki hw (r_runSN (rest := []) hC hw hw.1.2.1 lks_X7_putIntoRow lkz_X7_putIntoRow_94 (c_X8_misfits_5 l _ _ (100 + 4 * (aN ((sA κ 3 (aN xb)) - 1))) hk_b.1 hl_b hc_b) 2 gX7_putIntoRow_X8_misfits_n94 rfl rfl rfl (by decide +kernel) ⟨Nat.le_of_ble_eq_true rfl, Nat.le_of_ble_eq_true rfl⟩ rfl hl.1 rfl (Nat.le_of_ble_eq_true rfl) dX7_putIntoRow_50 ⟨Nat.le_of_ble_eq_true rfl, Nat.le_of_ble_eq_true rfl⟩) (fun r_20 u_21 H locs h_19 hw => ?_)
    by_cases c_22 : pOf (sA κ 4 (aN ((sA κ 3 (aN xb)) - 1))) 5
    · rw [if_pos c_22] at h_19
      subst h_19
      have w_23 : ¬ pWrong κ (sA κ 3 (aN xb)) 5 := fun h => h.2 c_22
      refine lv_if_ne (tgt := 76) hx hb dX7_putIntoRow_53 (by decide) (fun c_ => absurd (by decide) c_) (fun _ => ?_)
      refine lv_aloadN hx hb dX7_putIntoRow_56 (lv_at hl 1 rfl) ?_
      refine lv_iload_n hx hb dX7_putIntoRow_58 rfl (lv_at hl 5 rfl) ?_
      refine lv_bipush (v := 10) hx hb dX7_putIntoRow_59 (by decide) ?_
      refine lv_icmp_ne (tgt := 68) hx hb dX7_putIntoRow_61 (by decide) (fun _ => ?_) (fun c_ => absurd c_ (by decide))
      refine lv_bipush (v := 11) hx hb dX7_putIntoRow_68 (by decide) ?_
      refine r_ki hw (r_runSN (rest := []) hC hw hw.1.2.1 lks_X7_putIntoRow lkz_X7_putIntoRow_94 (c_X8_misfitsN_11 l _ _) 2 gX7_putIntoRow_X8_misfits_n94 rfl rfl rfl (by decide +kernel) ⟨Nat.le_of_ble_eq_true rfl, Nat.le_of_ble_eq_true rfl⟩ rfl hl.1 rfl (Nat.le_of_ble_eq_true rfl) dX7_putIntoRow_70 ⟨Nat.le_of_ble_eq_true rfl, Nat.le_of_ble_eq_true rfl⟩) (fun r_25 u_26 H locs h_24 hw => ?_)
      subst h_24
      refine lv_if_eq (tgt := 78) hx hb dX7_putIntoRow_73 (by decide) (fun _ => ?_) (fun c_ => absurd (by decide) c_)
      refine lv_aload_n hx hb dX7_putIntoRow_78 rfl (lv_at hl 2 rfl) ?_
      refine lv_ifnonnull (tgt := 84) hx hb dX7_putIntoRow_79 (by decide) ?_
      refine lv_aload_n hx hb dX7_putIntoRow_84 rfl (lv_at hl 2 rfl) ?_
      refine lv_iload hx hb dX7_putIntoRow_85 (lv_at hl 0 rfl) ?_
      refine r_ki hw (r_runV (rest := []) hC hw (100 + 4 * (aN ((sA κ 3 (aN xb)) - 1))) (c_X6_hasPlace l _ _ (100 + 4 * (aN ((sA κ 3 (aN xb)) - 1))) (sA κ 2 (aN xc)) hl_b hc_b) rk6 hl_b hc_b 1 gX7_putIntoRow_X6_hasPlace rfl rfl rfl (by decide +kernel) ⟨Nat.le_of_ble_eq_true rfl, Nat.le_of_ble_eq_true rfl⟩ rfl hl.1 rfl (Nat.le_of_ble_eq_true rfl) dX7_putIntoRow_87 ⟨Nat.le_of_ble_eq_true rfl, Nat.le_of_ble_eq_true rfl⟩) (fun r_29 u_30 H locs h_28 hw => ?_)
      rw [hp_eq hk_b.2] at h_28
      by_cases c_31 : pIn (sA κ 2 (aN xc)) 0 ((sA κ 5 (aN ((sA κ 3 (aN xb)) - 1))) - 1)
      · rw [if_pos c_31] at h_28
        subst h_28
        have hix := ixN hB_b.1 c_31 hk_b.2
        refine lv_if_ne (tgt := 95) hx hb dX7_putIntoRow_90 (by decide) (fun _ => ?_) (fun c_ => absurd c_ (by decide))
        refine lv_aload_n hx hb dX7_putIntoRow_95 rfl (lv_at hl 2 rfl) ?_
        refine r_get hC hw rk6 in_X7_putIntoRow_6 (100 + 4 * (aN ((sA κ 3 (aN xb)) - 1))) hl_b hc_b 0 (by decide) lk_X7_putIntoRow_145 (v := .int (sA κ 4 (aN ((sA κ 3 (aN xb)) - 1)))) rfl dX7_putIntoRow_96 ?_
        refine lv_bipush (v := 9) hx hb dX7_putIntoRow_99 (by decide) ?_
        refine lv_icmp_ne (tgt := 116) hx hb dX7_putIntoRow_101 (by decide) (fun _ => ?_) (fun c_ => absurd c_ (fun h => by rw [h] at c_22; exact absurd c_22 (by decide)))
        refine lv_iload_n hx hb dX7_putIntoRow_116 rfl (lv_at hl 5 rfl) ?_
        refine lv_iconst (v := 4) hx hb dX7_putIntoRow_117 (by decide) ?_
        refine lv_icmp_gt (tgt := 146) hx hb dX7_putIntoRow_118 (by decide) (fun _ => ?_) (fun c_ => absurd (by decide) c_)
        refine lv_iload_n hx hb dX7_putIntoRow_146 rfl (lv_at hl 5 rfl) ?_
        refine lv_iconst (v := 5) hx hb dX7_putIntoRow_147 (by decide) ?_
        refine lv_icmp_ne (tgt := 171) hx hb dX7_putIntoRow_148 (by decide) (fun c_ => absurd (by decide) c_) (fun _ => ?_)
        refine lv_aload_n hx hb dX7_putIntoRow_151 rfl (lv_at hl 2 rfl) ?_
        refine lv_iload hx hb dX7_putIntoRow_152 (lv_at hl 0 rfl) ?_
        refine lv_aload_n hx hb dX7_putIntoRow_154 rfl (lv_at hl 3 rfl) ?_
        refine r_get hC hw rk7 in_X7_putIntoRow_7 5 (wXl 5 (by decide)) wXc5 0 (by decide) lk_X7_putIntoRow_9 (v := .ref (ad 2)) rfl dX7_putIntoRow_155 ?_
        refine lv_aload_n hx hb dX7_putIntoRow_158 rfl (lv_at hl 4 rfl) ?_
        refine r_get hC hw rk5 in_X7_putIntoRow_5 ρ hst.1 hst.2 1 (by decide) lk_X7_putIntoRow_69 (v := .int xa) rfl dX7_putIntoRow_159 ?_
        refine r_kl hw (r_runV (rest := [.int (sA κ 2 (aN xc)), .ref (ad (100 + 4 * (aN ((sA κ 3 (aN xb)) - 1))))]) hC hw 2 (c_X3_getLong l _ _ 2 9 xa (wXl 2 (by decide)) wXc2 (wXl 9 (by decide)) wXc9) rk3 (wXl 2 (by decide)) wXc2 1 gX7_putIntoRow_X3_getLong rfl rfl rfl (by decide +kernel) ⟨Nat.le_of_ble_eq_true rfl, Nat.le_of_ble_eq_true rfl⟩ rfl hl.1 rfl (Nat.le_of_ble_eq_true rfl) dX7_putIntoRow_162 ⟨Nat.le_of_ble_eq_true rfl, Nat.le_of_ble_eq_true rfl⟩) (fun r_33 u_34 H locs h_32 hw => ?_)
        subst h_32
        refine r_topv (y := .long (sJ κ 0 (aN xa))) (congrArg _ (gN_in (by assumption) (by decide))) ?_
        have hkd : sA κ 4 (aN ((sA κ 3 (aN xb)) - 1)) ≤ 5 := kd5 c_22
        refine r_kv hw (r_runV (rest := []) hC hw (100 + 4 * (aN ((sA κ 3 (aN xb)) - 1))) (c_X6_setNumber (x1 := .null) l _ _ (100 + 4 * (aN ((sA κ 3 (aN xb)) - 1))) (101 + 4 * (aN ((sA κ 3 (aN xb)) - 1))) (sA κ 2 (aN xc)) (sJ κ 0 (aN xa)) (lnN_in hkd hix.2.2) (lnN_31 hk_b.2) hl_b hc_b (thl1 hB_b.2) (thc1 h6_b)) rk6 hl_b hc_b 2 gX7_putIntoRow_X6_setNumber rfl rfl rfl (by decide +kernel) ⟨Nat.le_of_ble_eq_true rfl, Nat.le_of_ble_eq_true rfl⟩ rfl hl.1 rfl (Nat.le_of_ble_eq_true rfl) dX7_putIntoRow_165 ⟨Nat.le_of_ble_eq_true rfl, Nat.le_of_ble_eq_true rfl⟩) (fun u_37 H locs h_35 hw => ?_)
        replace hw := xT_num h6_b hix.2.1 hw
        rw [← hix.1] at hw
        refine lv_goto (tgt := 232) hx hb dX7_putIntoRow_168 (by decide) ?_
        refine lv_iconst (v := 0) hx hb dX7_putIntoRow_232 (by decide) ?_
        exact r_iret hC hr hlk hw (uJ κ 1 (aN ((12 * ((sA κ 3 (aN xb)) - 1)) + (sA κ 2 (aN xc)))) (sJ κ 0 (aN xa))) rfl (doR0 (κ := κ) (hd := hd) (th := th) (k := 54) (a := xa) (b := xb) (c := xc) ((if_neg w_23).trans ((if_neg n_4).trans (if_pos c_31)))).symm (Nat.le_of_ble_eq_true rfl) (Nat.le_of_ble_eq_true rfl) dX7_putIntoRow_233
      · rw [if_neg c_31] at h_28
        subst h_28
        refine lv_if_ne (tgt := 95) hx hb dX7_putIntoRow_90 (by decide) (fun c_ => absurd (by decide) c_) (fun _ => ?_)
        refine lv_iconst (v := 2) hx hb dX7_putIntoRow_93 (by decide) ?_
        exact r_iret hC hr hlk hw κ rfl (doRf (κ := κ) (hd := hd) (th := th) (k := 54) (a := xa) (b := xb) (c := xc) ((if_neg w_23).trans ((if_neg n_4).trans (if_neg c_31))) (by decide)).symm (Nat.le_of_ble_eq_true rfl) (Nat.le_of_ble_eq_true rfl) dX7_putIntoRow_94
    · rw [if_neg c_22] at h_19
      subst h_19
      have w_38 : pWrong κ (sA κ 3 (aN xb)) 5 := ⟨n_4, c_22⟩
      refine lv_if_ne (tgt := 76) hx hb dX7_putIntoRow_53 (by decide) (fun _ => ?_) (fun c_ => absurd c_ (by decide))
      refine lv_iconst (v := 4) hx hb dX7_putIntoRow_76 (by decide) ?_
      exact r_iret hC hr hlk hw κ rfl (doRf (κ := κ) (hd := hd) (th := th) (k := 54) (a := xa) (b := xb) (c := xc) (if_pos w_38) (by decide)).symm (Nat.le_of_ble_eq_true rfl) (Nat.le_of_ble_eq_true rfl) dX7_putIntoRow_77

set_option maxHeartbeats 4000000 in
set_option maxRecDepth 100000 in
theorem c_X7_putIntoRow_55 (l : Launch) {D : va_G} {q : Nat → ClassId} {ad : Nat → Nat} {κ : KS} {τ : TAU} (sz : Nat) (ρ : Nat) (xa xb xc hd th : Int32) (hst : stepAt q ad κ τ ρ 55 xa xb xc) (hs : okStep 55 xa xb xc)(hX : WFx κ) (hN : nnOp κ 55 xa xb xc) : Met l yX7_putIntoRow wsX7_putIntoRow (rmz 2 42) (va_Pc [.ref (ad 5), .ref (ad ρ), .int 6] (rPre D q (wX q ad κ τ) sz)) (va_Qi (fun (r : Int32) (u : KS) => (r, u) = doR κ hd th 55 xa xb xc) (fun (u : KS) tt => rPo D (rA (wX q ad κ τ) sz) (wX q ad u τ) tt) (rA (wX q ad κ τ) sz)) 0 0 (rA (wX q ad κ τ) sz) := by
  have hi0 : vp_in xa 4 := hs.1
  have hi1 : vp_in xb 8 := hs.2.1
  have hi2 : vp_in xc 8 := hs.2.2
  refine r_start (cc := cX7_putIntoRow) (maxL := 6) (ret := (some .int)) (by decide) rfl (Nat.le_of_ble_eq_true rfl) ?_
  intro p e s m below meth c ls hC hr hlk hnm hsz hw hl
  have hx := hC.1
  have hb := hC.2.1
  have hl : lv_has ls 6 [(0, .ref (ad 5)), (1, .ref (ad ρ)), (2, .int 6)] := hl
  refine lv_aload_n hx hb dX7_putIntoRow_0 rfl (lv_at hl 0 rfl) ?_
  refine r_get hC hw rk7 in_X7_putIntoRow_7 5 (wXl 5 (by decide)) wXc5 0 (by decide) lk_X7_putIntoRow_9 (v := .ref (ad 2)) rfl dX7_putIntoRow_1 ?_
  refine lv_aload_n hx hb dX7_putIntoRow_4 rfl (lv_at hl 1 rfl) ?_
  refine r_get hC hw rk5 in_X7_putIntoRow_5 ρ hst.1 hst.2 2 (by decide) lk_X7_putIntoRow_74 (v := .int xb) rfl dX7_putIntoRow_5 ?_
  refine r_kq hw (r_runV (rest := []) hC hw 2 (c_X3_getThing l _ _ 2 12 xb (wXl 2 (by decide)) wXc2 (wXl 12 (by decide)) wXc12) rk3 (wXl 2 (by decide)) wXc2 1 gX7_putIntoRow_X3_getThing rfl rfl rfl (by decide +kernel) ⟨Nat.le_of_ble_eq_true rfl, Nat.le_of_ble_eq_true rfl⟩ rfl hl.1 rfl (Nat.le_of_ble_eq_true rfl) dX7_putIntoRow_8 ⟨Nat.le_of_ble_eq_true rfl, Nat.le_of_ble_eq_true rfl⟩) (fun r_2 u_3 H locs h_1 hw => ?_)
  subst h_1
  by_cases n_4 : (sA κ 3 (aN xb)) = 0
  · refine r_topv (y := .null) (by rw [gN_in (by assumption) (by decide)]; show va_rf ((rT (sA κ 3 (aN xb))).map ad) = _; rw [rT0 n_4]; rfl) ?_
    refine lv_astore_nN (lv' := [(3, .null), (0, .ref (ad 5)), (1, .ref (ad ρ)), (2, .int 6)]) hx hb dX7_putIntoRow_11 rfl hl (by decide) rfl (fun ls hl => ?_)
    refine lv_iload_n hx hb dX7_putIntoRow_12 rfl (lv_at hl 3 rfl) ?_
    refine lv_bipush (v := 8) hx hb dX7_putIntoRow_13 (by decide) ?_
    refine lv_icmp_lt (tgt := 32) hx hb dX7_putIntoRow_15 (by decide) (fun _ => ?_) (fun c_ => absurd (by decide) c_)
    refine lv_null hx hb dX7_putIntoRow_32 ?_
    refine lv_astoreN (lv' := [(4, .null), (3, .null), (0, .ref (ad 5)), (1, .ref (ad ρ)), (2, .int 6)]) hx hb dX7_putIntoRow_33 hl (by decide) rfl (fun ls hl => ?_)
    refine lv_aload_n hx hb dX7_putIntoRow_35 rfl (lv_at hl 2 rfl) ?_
    refine r_get hC hw rk7 in_X7_putIntoRow_7 5 (wXl 5 (by decide)) wXc5 0 (by decide) lk_X7_putIntoRow_9 (v := .ref (ad 2)) rfl dX7_putIntoRow_36 ?_
    refine lv_aload_n hx hb dX7_putIntoRow_39 rfl (lv_at hl 3 rfl) ?_
    refine r_get hC hw rk5 in_X7_putIntoRow_5 ρ hst.1 hst.2 3 (by decide) lk_X7_putIntoRow_57 (v := .int xc) rfl dX7_putIntoRow_40 ?_
    refine r_ki hw (r_runV (rest := []) hC hw 2 (c_X3_getWord l _ _ 2 8 xc (wXl 2 (by decide)) wXc2 (wXl 8 (by decide)) wXc8) rk3 (wXl 2 (by decide)) wXc2 1 gX7_putIntoRow_X3_getWord rfl rfl rfl (by decide +kernel) ⟨Nat.le_of_ble_eq_true rfl, Nat.le_of_ble_eq_true rfl⟩ rfl hl.1 rfl (Nat.le_of_ble_eq_true rfl) dX7_putIntoRow_43 ⟨Nat.le_of_ble_eq_true rfl, Nat.le_of_ble_eq_true rfl⟩) (fun r_6 u_7 H locs h_5 hw => ?_)
    subst h_5
    refine r_topv (y := .int (sA κ 2 (aN xc))) (congrArg _ (gN_in (by assumption) (by decide))) ?_
    refine lv_istore (lv' := [(5, .int (sA κ 2 (aN xc))), (4, .null), (3, .null), (0, .ref (ad 5)), (1, .ref (ad ρ)), (2, .int 6)]) hx hb dX7_putIntoRow_46 hl (by decide) rfl (fun ls hl => ?_)
    refine lv_aload_nN hx hb dX7_putIntoRow_48 rfl (lv_at hl 2 rfl) ?_
    refine lv_iload_n hx hb dX7_putIntoRow_49 rfl (lv_at hl 5 rfl) ?_
    refine r_ki hw (r_runSN (rest := []) hC hw hw.1.2.1 lks_X7_putIntoRow lkz_X7_putIntoRow_94 (c_X8_misfitsN_6 l _ _) 2 gX7_putIntoRow_X8_misfits_n94 rfl rfl rfl (by decide +kernel) ⟨Nat.le_of_ble_eq_true rfl, Nat.le_of_ble_eq_true rfl⟩ rfl hl.1 rfl (Nat.le_of_ble_eq_true rfl) dX7_putIntoRow_50 ⟨Nat.le_of_ble_eq_true rfl, Nat.le_of_ble_eq_true rfl⟩) (fun r_9 u_10 H locs h_8 hw => ?_)
    subst h_8
    have w_11 : ¬ pWrong κ (sA κ 3 (aN xb)) 6 := fun h => h.1 n_4
    refine lv_if_ne (tgt := 76) hx hb dX7_putIntoRow_53 (by decide) (fun c_ => absurd (by decide) c_) (fun _ => ?_)
    refine lv_aloadN hx hb dX7_putIntoRow_56 (lv_at hl 1 rfl) ?_
    refine lv_iload_n hx hb dX7_putIntoRow_58 rfl (lv_at hl 5 rfl) ?_
    refine lv_bipush (v := 10) hx hb dX7_putIntoRow_59 (by decide) ?_
    refine lv_icmp_ne (tgt := 68) hx hb dX7_putIntoRow_61 (by decide) (fun _ => ?_) (fun c_ => absurd c_ (by decide))
    refine lv_bipush (v := 11) hx hb dX7_putIntoRow_68 (by decide) ?_
    refine r_ki hw (r_runSN (rest := []) hC hw hw.1.2.1 lks_X7_putIntoRow lkz_X7_putIntoRow_94 (c_X8_misfitsN_11 l _ _) 2 gX7_putIntoRow_X8_misfits_n94 rfl rfl rfl (by decide +kernel) ⟨Nat.le_of_ble_eq_true rfl, Nat.le_of_ble_eq_true rfl⟩ rfl hl.1 rfl (Nat.le_of_ble_eq_true rfl) dX7_putIntoRow_70 ⟨Nat.le_of_ble_eq_true rfl, Nat.le_of_ble_eq_true rfl⟩) (fun r_13 u_14 H locs h_12 hw => ?_)
    subst h_12
    refine lv_if_eq (tgt := 78) hx hb dX7_putIntoRow_73 (by decide) (fun _ => ?_) (fun c_ => absurd (by decide) c_)
    refine lv_aload_nN hx hb dX7_putIntoRow_78 rfl (lv_at hl 2 rfl) ?_
    refine lv_ifnonnullN hx hb dX7_putIntoRow_79 ?_
    refine lv_iconst (v := 1) hx hb dX7_putIntoRow_82 (by decide) ?_
    exact r_iret hC hr hlk hw κ rfl (doRf (κ := κ) (hd := hd) (th := th) (k := 55) (a := xa) (b := xb) (c := xc) ((if_neg w_11).trans (if_pos n_4)) (by decide)).symm (Nat.le_of_ble_eq_true rfl) (Nat.le_of_ble_eq_true rfl) dX7_putIntoRow_83
  · refine r_topv (y := .ref (ad (100 + 4 * (aN ((sA κ 3 (aN xb)) - 1))))) (by rw [gN_in (by assumption) (by decide)]; show va_rf ((rT (sA κ 3 (aN xb))).map ad) = _; rw [rT1 n_4]; rfl) ?_
    have hB_b := hX.2.1 xb (by assumption) n_4
    have h6_b : (aN ((sA κ 3 (aN xb)) - 1)) < 60 := Nat.lt_of_lt_of_le hB_b.2 hX.1
    have hl_b : (wX q ad κ τ).2.1 (100 + 4 * (aN ((sA κ 3 (aN xb)) - 1))) := thl hB_b.2
    have hc_b : (wX q ad κ τ).2.2 (100 + 4 * (aN ((sA κ 3 (aN xb)) - 1))) = .inr (6, fsT ad κ (aN ((sA κ 3 (aN xb)) - 1))) := thc h6_b
    have hk_b := hX.2.2.1 _ hB_b.2
    refine lv_astore_n (lv' := [(3, .ref (ad (100 + 4 * (aN ((sA κ 3 (aN xb)) - 1))))), (0, .ref (ad 5)), (1, .ref (ad ρ)), (2, .int 6)]) hx hb dX7_putIntoRow_11 rfl hl (by decide) rfl (fun ls hl => ?_)
    refine lv_iload_n hx hb dX7_putIntoRow_12 rfl (lv_at hl 3 rfl) ?_
    refine lv_bipush (v := 8) hx hb dX7_putIntoRow_13 (by decide) ?_
    refine lv_icmp_lt (tgt := 32) hx hb dX7_putIntoRow_15 (by decide) (fun _ => ?_) (fun c_ => absurd (by decide) c_)
    refine lv_null hx hb dX7_putIntoRow_32 ?_
    refine lv_astoreN (lv' := [(4, .null), (3, .ref (ad (100 + 4 * (aN ((sA κ 3 (aN xb)) - 1))))), (0, .ref (ad 5)), (1, .ref (ad ρ)), (2, .int 6)]) hx hb dX7_putIntoRow_33 hl (by decide) rfl (fun ls hl => ?_)
    refine lv_aload_n hx hb dX7_putIntoRow_35 rfl (lv_at hl 2 rfl) ?_
    refine r_get hC hw rk7 in_X7_putIntoRow_7 5 (wXl 5 (by decide)) wXc5 0 (by decide) lk_X7_putIntoRow_9 (v := .ref (ad 2)) rfl dX7_putIntoRow_36 ?_
    refine lv_aload_n hx hb dX7_putIntoRow_39 rfl (lv_at hl 3 rfl) ?_
    refine r_get hC hw rk5 in_X7_putIntoRow_5 ρ hst.1 hst.2 3 (by decide) lk_X7_putIntoRow_57 (v := .int xc) rfl dX7_putIntoRow_40 ?_
    refine r_ki hw (r_runV (rest := []) hC hw 2 (c_X3_getWord l _ _ 2 8 xc (wXl 2 (by decide)) wXc2 (wXl 8 (by decide)) wXc8) rk3 (wXl 2 (by decide)) wXc2 1 gX7_putIntoRow_X3_getWord rfl rfl rfl (by decide +kernel) ⟨Nat.le_of_ble_eq_true rfl, Nat.le_of_ble_eq_true rfl⟩ rfl hl.1 rfl (Nat.le_of_ble_eq_true rfl) dX7_putIntoRow_43 ⟨Nat.le_of_ble_eq_true rfl, Nat.le_of_ble_eq_true rfl⟩) (fun r_17 u_18 H locs h_16 hw => ?_)
    subst h_16
    refine r_topv (y := .int (sA κ 2 (aN xc))) (congrArg _ (gN_in (by assumption) (by decide))) ?_
    refine lv_istore (lv' := [(5, .int (sA κ 2 (aN xc))), (4, .null), (3, .ref (ad (100 + 4 * (aN ((sA κ 3 (aN xb)) - 1))))), (0, .ref (ad 5)), (1, .ref (ad ρ)), (2, .int 6)]) hx hb dX7_putIntoRow_46 hl (by decide) rfl (fun ls hl => ?_)
    refine lv_aload_n hx hb dX7_putIntoRow_48 rfl (lv_at hl 2 rfl) ?_
    refine lv_iload_n hx hb dX7_putIntoRow_49 rfl (lv_at hl 5 rfl) ?_
    refine r_ki hw (r_runSN (rest := []) hC hw hw.1.2.1 lks_X7_putIntoRow lkz_X7_putIntoRow_94 (c_X8_misfits_6 l _ _ (100 + 4 * (aN ((sA κ 3 (aN xb)) - 1))) hk_b.1 hl_b hc_b) 2 gX7_putIntoRow_X8_misfits_n94 rfl rfl rfl (by decide +kernel) ⟨Nat.le_of_ble_eq_true rfl, Nat.le_of_ble_eq_true rfl⟩ rfl hl.1 rfl (Nat.le_of_ble_eq_true rfl) dX7_putIntoRow_50 ⟨Nat.le_of_ble_eq_true rfl, Nat.le_of_ble_eq_true rfl⟩) (fun r_20 u_21 H locs h_19 hw => ?_)
    by_cases c_22 : pOf (sA κ 4 (aN ((sA κ 3 (aN xb)) - 1))) 6
    · rw [if_pos c_22] at h_19
      subst h_19
      have w_23 : ¬ pWrong κ (sA κ 3 (aN xb)) 6 := fun h => h.2 c_22
      refine lv_if_ne (tgt := 76) hx hb dX7_putIntoRow_53 (by decide) (fun c_ => absurd (by decide) c_) (fun _ => ?_)
      refine lv_aloadN hx hb dX7_putIntoRow_56 (lv_at hl 1 rfl) ?_
      refine lv_iload_n hx hb dX7_putIntoRow_58 rfl (lv_at hl 5 rfl) ?_
      refine lv_bipush (v := 10) hx hb dX7_putIntoRow_59 (by decide) ?_
      refine lv_icmp_ne (tgt := 68) hx hb dX7_putIntoRow_61 (by decide) (fun _ => ?_) (fun c_ => absurd c_ (by decide))
      refine lv_bipush (v := 11) hx hb dX7_putIntoRow_68 (by decide) ?_
      refine r_ki hw (r_runSN (rest := []) hC hw hw.1.2.1 lks_X7_putIntoRow lkz_X7_putIntoRow_94 (c_X8_misfitsN_11 l _ _) 2 gX7_putIntoRow_X8_misfits_n94 rfl rfl rfl (by decide +kernel) ⟨Nat.le_of_ble_eq_true rfl, Nat.le_of_ble_eq_true rfl⟩ rfl hl.1 rfl (Nat.le_of_ble_eq_true rfl) dX7_putIntoRow_70 ⟨Nat.le_of_ble_eq_true rfl, Nat.le_of_ble_eq_true rfl⟩) (fun r_25 u_26 H locs h_24 hw => ?_)
      subst h_24
      refine lv_if_eq (tgt := 78) hx hb dX7_putIntoRow_73 (by decide) (fun _ => ?_) (fun c_ => absurd (by decide) c_)
      refine lv_aload_n hx hb dX7_putIntoRow_78 rfl (lv_at hl 2 rfl) ?_
      refine lv_ifnonnull (tgt := 84) hx hb dX7_putIntoRow_79 (by decide) ?_
      refine lv_aload_n hx hb dX7_putIntoRow_84 rfl (lv_at hl 2 rfl) ?_
      refine lv_iload hx hb dX7_putIntoRow_85 (lv_at hl 0 rfl) ?_
      refine r_ki hw (r_runV (rest := []) hC hw (100 + 4 * (aN ((sA κ 3 (aN xb)) - 1))) (c_X6_hasPlace l _ _ (100 + 4 * (aN ((sA κ 3 (aN xb)) - 1))) (sA κ 2 (aN xc)) hl_b hc_b) rk6 hl_b hc_b 1 gX7_putIntoRow_X6_hasPlace rfl rfl rfl (by decide +kernel) ⟨Nat.le_of_ble_eq_true rfl, Nat.le_of_ble_eq_true rfl⟩ rfl hl.1 rfl (Nat.le_of_ble_eq_true rfl) dX7_putIntoRow_87 ⟨Nat.le_of_ble_eq_true rfl, Nat.le_of_ble_eq_true rfl⟩) (fun r_29 u_30 H locs h_28 hw => ?_)
      rw [hp_eq hk_b.2] at h_28
      by_cases c_31 : pIn (sA κ 2 (aN xc)) 0 ((sA κ 5 (aN ((sA κ 3 (aN xb)) - 1))) - 1)
      · rw [if_pos c_31] at h_28
        subst h_28
        have hix := ixN hB_b.1 c_31 hk_b.2
        refine lv_if_ne (tgt := 95) hx hb dX7_putIntoRow_90 (by decide) (fun _ => ?_) (fun c_ => absurd c_ (by decide))
        refine lv_aload_n hx hb dX7_putIntoRow_95 rfl (lv_at hl 2 rfl) ?_
        refine r_get hC hw rk6 in_X7_putIntoRow_6 (100 + 4 * (aN ((sA κ 3 (aN xb)) - 1))) hl_b hc_b 0 (by decide) lk_X7_putIntoRow_145 (v := .int (sA κ 4 (aN ((sA κ 3 (aN xb)) - 1)))) rfl dX7_putIntoRow_96 ?_
        refine lv_bipush (v := 9) hx hb dX7_putIntoRow_99 (by decide) ?_
        refine lv_icmp_ne (tgt := 116) hx hb dX7_putIntoRow_101 (by decide) (fun _ => ?_) (fun c_ => absurd c_ (fun h => by rw [h] at c_22; exact absurd c_22 (by decide)))
        refine lv_iload_n hx hb dX7_putIntoRow_116 rfl (lv_at hl 5 rfl) ?_
        refine lv_iconst (v := 4) hx hb dX7_putIntoRow_117 (by decide) ?_
        refine lv_icmp_gt (tgt := 146) hx hb dX7_putIntoRow_118 (by decide) (fun _ => ?_) (fun c_ => absurd (by decide) c_)
        refine lv_iload_n hx hb dX7_putIntoRow_146 rfl (lv_at hl 5 rfl) ?_
        refine lv_iconst (v := 5) hx hb dX7_putIntoRow_147 (by decide) ?_
        refine lv_icmp_ne (tgt := 171) hx hb dX7_putIntoRow_148 (by decide) (fun _ => ?_) (fun c_ => absurd c_ (by decide))
        refine lv_iload_n hx hb dX7_putIntoRow_171 rfl (lv_at hl 5 rfl) ?_
        refine lv_bipush (v := 6) hx hb dX7_putIntoRow_172 (by decide) ?_
        refine lv_icmp_ne (tgt := 198) hx hb dX7_putIntoRow_174 (by decide) (fun c_ => absurd (by decide) c_) (fun _ => ?_)
        refine lv_aload_n hx hb dX7_putIntoRow_177 rfl (lv_at hl 2 rfl) ?_
        refine lv_iload hx hb dX7_putIntoRow_178 (lv_at hl 0 rfl) ?_
        refine lv_aload_n hx hb dX7_putIntoRow_180 rfl (lv_at hl 3 rfl) ?_
        refine r_get hC hw rk7 in_X7_putIntoRow_7 5 (wXl 5 (by decide)) wXc5 0 (by decide) lk_X7_putIntoRow_9 (v := .ref (ad 2)) rfl dX7_putIntoRow_181 ?_
        refine lv_aload_n hx hb dX7_putIntoRow_184 rfl (lv_at hl 4 rfl) ?_
        refine r_get hC hw rk5 in_X7_putIntoRow_5 ρ hst.1 hst.2 1 (by decide) lk_X7_putIntoRow_69 (v := .int xa) rfl dX7_putIntoRow_185 ?_
        refine r_kf hw (r_runV (rest := [.int (sA κ 2 (aN xc)), .ref (ad (100 + 4 * (aN ((sA κ 3 (aN xb)) - 1))))]) hC hw 2 (c_X3_getSingle l _ _ 2 10 xa (wXl 2 (by decide)) wXc2 (wXl 10 (by decide)) wXc10) rk3 (wXl 2 (by decide)) wXc2 1 gX7_putIntoRow_X3_getSingle rfl rfl rfl (by decide +kernel) ⟨Nat.le_of_ble_eq_true rfl, Nat.le_of_ble_eq_true rfl⟩ rfl hl.1 rfl (Nat.le_of_ble_eq_true rfl) dX7_putIntoRow_188 ⟨Nat.le_of_ble_eq_true rfl, Nat.le_of_ble_eq_true rfl⟩) (fun r_33 u_34 H locs h_32 hw => ?_)
        subst h_32
        refine r_topv (y := .float (sF κ (aN xa))) (congrArg _ (gN_in (by assumption) (by decide))) ?_
        refine lv_f2d hx hb dX7_putIntoRow_191 hN ?_
        have hkd : sA κ 4 (aN ((sA κ 3 (aN xb)) - 1)) = 6 ∨ sA κ 4 (aN ((sA κ 3 (aN xb)) - 1)) = 7 := kd67 c_22
        refine r_kv hw (r_runV (rest := []) hC hw (100 + 4 * (aN ((sA κ 3 (aN xb)) - 1))) (c_X6_setPoint (x2 := .null) l _ _ (100 + 4 * (aN ((sA κ 3 (aN xb)) - 1))) (102 + 4 * (aN ((sA κ 3 (aN xb)) - 1))) (sA κ 2 (aN xc)) (FP.f2d (sF κ (aN xa))) (lnP_in hkd hix.2.2) (lnP_31 hk_b.2) hl_b hc_b (thl2 hB_b.2) (thc2 h6_b)) rk6 hl_b hc_b 2 gX7_putIntoRow_X6_setPoint rfl rfl rfl (by decide +kernel) ⟨Nat.le_of_ble_eq_true rfl, Nat.le_of_ble_eq_true rfl⟩ rfl hl.1 rfl (Nat.le_of_ble_eq_true rfl) dX7_putIntoRow_192 ⟨Nat.le_of_ble_eq_true rfl, Nat.le_of_ble_eq_true rfl⟩) (fun u_37 H locs h_35 hw => ?_)
        replace hw := xT_pt h6_b hix.2.1 hw
        rw [← hix.1] at hw
        refine lv_goto (tgt := 232) hx hb dX7_putIntoRow_195 (by decide) ?_
        refine lv_iconst (v := 0) hx hb dX7_putIntoRow_232 (by decide) ?_
        exact r_iret hC hr hlk hw (uD κ 1 (aN ((12 * ((sA κ 3 (aN xb)) - 1)) + (sA κ 2 (aN xc)))) (FP.f2d (sF κ (aN xa)))) rfl (doR0 (κ := κ) (hd := hd) (th := th) (k := 55) (a := xa) (b := xb) (c := xc) ((if_neg w_23).trans ((if_neg n_4).trans (if_pos c_31)))).symm (Nat.le_of_ble_eq_true rfl) (Nat.le_of_ble_eq_true rfl) dX7_putIntoRow_233
      · rw [if_neg c_31] at h_28
        subst h_28
        refine lv_if_ne (tgt := 95) hx hb dX7_putIntoRow_90 (by decide) (fun c_ => absurd (by decide) c_) (fun _ => ?_)
        refine lv_iconst (v := 2) hx hb dX7_putIntoRow_93 (by decide) ?_
        exact r_iret hC hr hlk hw κ rfl (doRf (κ := κ) (hd := hd) (th := th) (k := 55) (a := xa) (b := xb) (c := xc) ((if_neg w_23).trans ((if_neg n_4).trans (if_neg c_31))) (by decide)).symm (Nat.le_of_ble_eq_true rfl) (Nat.le_of_ble_eq_true rfl) dX7_putIntoRow_94
    · rw [if_neg c_22] at h_19
      subst h_19
      have w_38 : pWrong κ (sA κ 3 (aN xb)) 6 := ⟨n_4, c_22⟩
      refine lv_if_ne (tgt := 76) hx hb dX7_putIntoRow_53 (by decide) (fun _ => ?_) (fun c_ => absurd c_ (by decide))
      refine lv_iconst (v := 4) hx hb dX7_putIntoRow_76 (by decide) ?_
      exact r_iret hC hr hlk hw κ rfl (doRf (κ := κ) (hd := hd) (th := th) (k := 55) (a := xa) (b := xb) (c := xc) (if_pos w_38) (by decide)).symm (Nat.le_of_ble_eq_true rfl) (Nat.le_of_ble_eq_true rfl) dX7_putIntoRow_77

set_option maxHeartbeats 4000000 in
set_option maxRecDepth 100000 in
theorem c_X7_putIntoRow_56 (l : Launch) {D : va_G} {q : Nat → ClassId} {ad : Nat → Nat} {κ : KS} {τ : TAU} (sz : Nat) (ρ : Nat) (xa xb xc hd th : Int32) (hst : stepAt q ad κ τ ρ 56 xa xb xc) (hs : okStep 56 xa xb xc)(hX : WFx κ) (hN : nnOp κ 56 xa xb xc) : Met l yX7_putIntoRow wsX7_putIntoRow (rmz 2 42) (va_Pc [.ref (ad 5), .ref (ad ρ), .int 7] (rPre D q (wX q ad κ τ) sz)) (va_Qi (fun (r : Int32) (u : KS) => (r, u) = doR κ hd th 56 xa xb xc) (fun (u : KS) tt => rPo D (rA (wX q ad κ τ) sz) (wX q ad u τ) tt) (rA (wX q ad κ τ) sz)) 0 0 (rA (wX q ad κ τ) sz) := by
  have hi0 : vp_in xa 4 := hs.1
  have hi1 : vp_in xb 8 := hs.2.1
  have hi2 : vp_in xc 8 := hs.2.2
  refine r_start (cc := cX7_putIntoRow) (maxL := 6) (ret := (some .int)) (by decide) rfl (Nat.le_of_ble_eq_true rfl) ?_
  intro p e s m below meth c ls hC hr hlk hnm hsz hw hl
  have hx := hC.1
  have hb := hC.2.1
  have hl : lv_has ls 6 [(0, .ref (ad 5)), (1, .ref (ad ρ)), (2, .int 7)] := hl
  refine lv_aload_n hx hb dX7_putIntoRow_0 rfl (lv_at hl 0 rfl) ?_
  refine r_get hC hw rk7 in_X7_putIntoRow_7 5 (wXl 5 (by decide)) wXc5 0 (by decide) lk_X7_putIntoRow_9 (v := .ref (ad 2)) rfl dX7_putIntoRow_1 ?_
  refine lv_aload_n hx hb dX7_putIntoRow_4 rfl (lv_at hl 1 rfl) ?_
  refine r_get hC hw rk5 in_X7_putIntoRow_5 ρ hst.1 hst.2 2 (by decide) lk_X7_putIntoRow_74 (v := .int xb) rfl dX7_putIntoRow_5 ?_
  refine r_kq hw (r_runV (rest := []) hC hw 2 (c_X3_getThing l _ _ 2 12 xb (wXl 2 (by decide)) wXc2 (wXl 12 (by decide)) wXc12) rk3 (wXl 2 (by decide)) wXc2 1 gX7_putIntoRow_X3_getThing rfl rfl rfl (by decide +kernel) ⟨Nat.le_of_ble_eq_true rfl, Nat.le_of_ble_eq_true rfl⟩ rfl hl.1 rfl (Nat.le_of_ble_eq_true rfl) dX7_putIntoRow_8 ⟨Nat.le_of_ble_eq_true rfl, Nat.le_of_ble_eq_true rfl⟩) (fun r_2 u_3 H locs h_1 hw => ?_)
  subst h_1
  by_cases n_4 : (sA κ 3 (aN xb)) = 0
  · refine r_topv (y := .null) (by rw [gN_in (by assumption) (by decide)]; show va_rf ((rT (sA κ 3 (aN xb))).map ad) = _; rw [rT0 n_4]; rfl) ?_
    refine lv_astore_nN (lv' := [(3, .null), (0, .ref (ad 5)), (1, .ref (ad ρ)), (2, .int 7)]) hx hb dX7_putIntoRow_11 rfl hl (by decide) rfl (fun ls hl => ?_)
    refine lv_iload_n hx hb dX7_putIntoRow_12 rfl (lv_at hl 3 rfl) ?_
    refine lv_bipush (v := 8) hx hb dX7_putIntoRow_13 (by decide) ?_
    refine lv_icmp_lt (tgt := 32) hx hb dX7_putIntoRow_15 (by decide) (fun _ => ?_) (fun c_ => absurd (by decide) c_)
    refine lv_null hx hb dX7_putIntoRow_32 ?_
    refine lv_astoreN (lv' := [(4, .null), (3, .null), (0, .ref (ad 5)), (1, .ref (ad ρ)), (2, .int 7)]) hx hb dX7_putIntoRow_33 hl (by decide) rfl (fun ls hl => ?_)
    refine lv_aload_n hx hb dX7_putIntoRow_35 rfl (lv_at hl 2 rfl) ?_
    refine r_get hC hw rk7 in_X7_putIntoRow_7 5 (wXl 5 (by decide)) wXc5 0 (by decide) lk_X7_putIntoRow_9 (v := .ref (ad 2)) rfl dX7_putIntoRow_36 ?_
    refine lv_aload_n hx hb dX7_putIntoRow_39 rfl (lv_at hl 3 rfl) ?_
    refine r_get hC hw rk5 in_X7_putIntoRow_5 ρ hst.1 hst.2 3 (by decide) lk_X7_putIntoRow_57 (v := .int xc) rfl dX7_putIntoRow_40 ?_
    refine r_ki hw (r_runV (rest := []) hC hw 2 (c_X3_getWord l _ _ 2 8 xc (wXl 2 (by decide)) wXc2 (wXl 8 (by decide)) wXc8) rk3 (wXl 2 (by decide)) wXc2 1 gX7_putIntoRow_X3_getWord rfl rfl rfl (by decide +kernel) ⟨Nat.le_of_ble_eq_true rfl, Nat.le_of_ble_eq_true rfl⟩ rfl hl.1 rfl (Nat.le_of_ble_eq_true rfl) dX7_putIntoRow_43 ⟨Nat.le_of_ble_eq_true rfl, Nat.le_of_ble_eq_true rfl⟩) (fun r_6 u_7 H locs h_5 hw => ?_)
    subst h_5
    refine r_topv (y := .int (sA κ 2 (aN xc))) (congrArg _ (gN_in (by assumption) (by decide))) ?_
    refine lv_istore (lv' := [(5, .int (sA κ 2 (aN xc))), (4, .null), (3, .null), (0, .ref (ad 5)), (1, .ref (ad ρ)), (2, .int 7)]) hx hb dX7_putIntoRow_46 hl (by decide) rfl (fun ls hl => ?_)
    refine lv_aload_nN hx hb dX7_putIntoRow_48 rfl (lv_at hl 2 rfl) ?_
    refine lv_iload_n hx hb dX7_putIntoRow_49 rfl (lv_at hl 5 rfl) ?_
    refine r_ki hw (r_runSN (rest := []) hC hw hw.1.2.1 lks_X7_putIntoRow lkz_X7_putIntoRow_94 (c_X8_misfitsN_7 l _ _) 2 gX7_putIntoRow_X8_misfits_n94 rfl rfl rfl (by decide +kernel) ⟨Nat.le_of_ble_eq_true rfl, Nat.le_of_ble_eq_true rfl⟩ rfl hl.1 rfl (Nat.le_of_ble_eq_true rfl) dX7_putIntoRow_50 ⟨Nat.le_of_ble_eq_true rfl, Nat.le_of_ble_eq_true rfl⟩) (fun r_9 u_10 H locs h_8 hw => ?_)
    subst h_8
    have w_11 : ¬ pWrong κ (sA κ 3 (aN xb)) 7 := fun h => h.1 n_4
    refine lv_if_ne (tgt := 76) hx hb dX7_putIntoRow_53 (by decide) (fun c_ => absurd (by decide) c_) (fun _ => ?_)
    refine lv_aloadN hx hb dX7_putIntoRow_56 (lv_at hl 1 rfl) ?_
    refine lv_iload_n hx hb dX7_putIntoRow_58 rfl (lv_at hl 5 rfl) ?_
    refine lv_bipush (v := 10) hx hb dX7_putIntoRow_59 (by decide) ?_
    refine lv_icmp_ne (tgt := 68) hx hb dX7_putIntoRow_61 (by decide) (fun _ => ?_) (fun c_ => absurd c_ (by decide))
    refine lv_bipush (v := 11) hx hb dX7_putIntoRow_68 (by decide) ?_
    refine r_ki hw (r_runSN (rest := []) hC hw hw.1.2.1 lks_X7_putIntoRow lkz_X7_putIntoRow_94 (c_X8_misfitsN_11 l _ _) 2 gX7_putIntoRow_X8_misfits_n94 rfl rfl rfl (by decide +kernel) ⟨Nat.le_of_ble_eq_true rfl, Nat.le_of_ble_eq_true rfl⟩ rfl hl.1 rfl (Nat.le_of_ble_eq_true rfl) dX7_putIntoRow_70 ⟨Nat.le_of_ble_eq_true rfl, Nat.le_of_ble_eq_true rfl⟩) (fun r_13 u_14 H locs h_12 hw => ?_)
    subst h_12
    refine lv_if_eq (tgt := 78) hx hb dX7_putIntoRow_73 (by decide) (fun _ => ?_) (fun c_ => absurd (by decide) c_)
    refine lv_aload_nN hx hb dX7_putIntoRow_78 rfl (lv_at hl 2 rfl) ?_
    refine lv_ifnonnullN hx hb dX7_putIntoRow_79 ?_
    refine lv_iconst (v := 1) hx hb dX7_putIntoRow_82 (by decide) ?_
    exact r_iret hC hr hlk hw κ rfl (doRf (κ := κ) (hd := hd) (th := th) (k := 56) (a := xa) (b := xb) (c := xc) ((if_neg w_11).trans (if_pos n_4)) (by decide)).symm (Nat.le_of_ble_eq_true rfl) (Nat.le_of_ble_eq_true rfl) dX7_putIntoRow_83
  · refine r_topv (y := .ref (ad (100 + 4 * (aN ((sA κ 3 (aN xb)) - 1))))) (by rw [gN_in (by assumption) (by decide)]; show va_rf ((rT (sA κ 3 (aN xb))).map ad) = _; rw [rT1 n_4]; rfl) ?_
    have hB_b := hX.2.1 xb (by assumption) n_4
    have h6_b : (aN ((sA κ 3 (aN xb)) - 1)) < 60 := Nat.lt_of_lt_of_le hB_b.2 hX.1
    have hl_b : (wX q ad κ τ).2.1 (100 + 4 * (aN ((sA κ 3 (aN xb)) - 1))) := thl hB_b.2
    have hc_b : (wX q ad κ τ).2.2 (100 + 4 * (aN ((sA κ 3 (aN xb)) - 1))) = .inr (6, fsT ad κ (aN ((sA κ 3 (aN xb)) - 1))) := thc h6_b
    have hk_b := hX.2.2.1 _ hB_b.2
    refine lv_astore_n (lv' := [(3, .ref (ad (100 + 4 * (aN ((sA κ 3 (aN xb)) - 1))))), (0, .ref (ad 5)), (1, .ref (ad ρ)), (2, .int 7)]) hx hb dX7_putIntoRow_11 rfl hl (by decide) rfl (fun ls hl => ?_)
    refine lv_iload_n hx hb dX7_putIntoRow_12 rfl (lv_at hl 3 rfl) ?_
    refine lv_bipush (v := 8) hx hb dX7_putIntoRow_13 (by decide) ?_
    refine lv_icmp_lt (tgt := 32) hx hb dX7_putIntoRow_15 (by decide) (fun _ => ?_) (fun c_ => absurd (by decide) c_)
    refine lv_null hx hb dX7_putIntoRow_32 ?_
    refine lv_astoreN (lv' := [(4, .null), (3, .ref (ad (100 + 4 * (aN ((sA κ 3 (aN xb)) - 1))))), (0, .ref (ad 5)), (1, .ref (ad ρ)), (2, .int 7)]) hx hb dX7_putIntoRow_33 hl (by decide) rfl (fun ls hl => ?_)
    refine lv_aload_n hx hb dX7_putIntoRow_35 rfl (lv_at hl 2 rfl) ?_
    refine r_get hC hw rk7 in_X7_putIntoRow_7 5 (wXl 5 (by decide)) wXc5 0 (by decide) lk_X7_putIntoRow_9 (v := .ref (ad 2)) rfl dX7_putIntoRow_36 ?_
    refine lv_aload_n hx hb dX7_putIntoRow_39 rfl (lv_at hl 3 rfl) ?_
    refine r_get hC hw rk5 in_X7_putIntoRow_5 ρ hst.1 hst.2 3 (by decide) lk_X7_putIntoRow_57 (v := .int xc) rfl dX7_putIntoRow_40 ?_
    refine r_ki hw (r_runV (rest := []) hC hw 2 (c_X3_getWord l _ _ 2 8 xc (wXl 2 (by decide)) wXc2 (wXl 8 (by decide)) wXc8) rk3 (wXl 2 (by decide)) wXc2 1 gX7_putIntoRow_X3_getWord rfl rfl rfl (by decide +kernel) ⟨Nat.le_of_ble_eq_true rfl, Nat.le_of_ble_eq_true rfl⟩ rfl hl.1 rfl (Nat.le_of_ble_eq_true rfl) dX7_putIntoRow_43 ⟨Nat.le_of_ble_eq_true rfl, Nat.le_of_ble_eq_true rfl⟩) (fun r_17 u_18 H locs h_16 hw => ?_)
    subst h_16
    refine r_topv (y := .int (sA κ 2 (aN xc))) (congrArg _ (gN_in (by assumption) (by decide))) ?_
    refine lv_istore (lv' := [(5, .int (sA κ 2 (aN xc))), (4, .null), (3, .ref (ad (100 + 4 * (aN ((sA κ 3 (aN xb)) - 1))))), (0, .ref (ad 5)), (1, .ref (ad ρ)), (2, .int 7)]) hx hb dX7_putIntoRow_46 hl (by decide) rfl (fun ls hl => ?_)
    refine lv_aload_n hx hb dX7_putIntoRow_48 rfl (lv_at hl 2 rfl) ?_
    refine lv_iload_n hx hb dX7_putIntoRow_49 rfl (lv_at hl 5 rfl) ?_
    refine r_ki hw (r_runSN (rest := []) hC hw hw.1.2.1 lks_X7_putIntoRow lkz_X7_putIntoRow_94 (c_X8_misfits_7 l _ _ (100 + 4 * (aN ((sA κ 3 (aN xb)) - 1))) hk_b.1 hl_b hc_b) 2 gX7_putIntoRow_X8_misfits_n94 rfl rfl rfl (by decide +kernel) ⟨Nat.le_of_ble_eq_true rfl, Nat.le_of_ble_eq_true rfl⟩ rfl hl.1 rfl (Nat.le_of_ble_eq_true rfl) dX7_putIntoRow_50 ⟨Nat.le_of_ble_eq_true rfl, Nat.le_of_ble_eq_true rfl⟩) (fun r_20 u_21 H locs h_19 hw => ?_)
    by_cases c_22 : pOf (sA κ 4 (aN ((sA κ 3 (aN xb)) - 1))) 7
    · rw [if_pos c_22] at h_19
      subst h_19
      have w_23 : ¬ pWrong κ (sA κ 3 (aN xb)) 7 := fun h => h.2 c_22
      refine lv_if_ne (tgt := 76) hx hb dX7_putIntoRow_53 (by decide) (fun c_ => absurd (by decide) c_) (fun _ => ?_)
      refine lv_aloadN hx hb dX7_putIntoRow_56 (lv_at hl 1 rfl) ?_
      refine lv_iload_n hx hb dX7_putIntoRow_58 rfl (lv_at hl 5 rfl) ?_
      refine lv_bipush (v := 10) hx hb dX7_putIntoRow_59 (by decide) ?_
      refine lv_icmp_ne (tgt := 68) hx hb dX7_putIntoRow_61 (by decide) (fun _ => ?_) (fun c_ => absurd c_ (by decide))
      refine lv_bipush (v := 11) hx hb dX7_putIntoRow_68 (by decide) ?_
      refine r_ki hw (r_runSN (rest := []) hC hw hw.1.2.1 lks_X7_putIntoRow lkz_X7_putIntoRow_94 (c_X8_misfitsN_11 l _ _) 2 gX7_putIntoRow_X8_misfits_n94 rfl rfl rfl (by decide +kernel) ⟨Nat.le_of_ble_eq_true rfl, Nat.le_of_ble_eq_true rfl⟩ rfl hl.1 rfl (Nat.le_of_ble_eq_true rfl) dX7_putIntoRow_70 ⟨Nat.le_of_ble_eq_true rfl, Nat.le_of_ble_eq_true rfl⟩) (fun r_25 u_26 H locs h_24 hw => ?_)
      subst h_24
      refine lv_if_eq (tgt := 78) hx hb dX7_putIntoRow_73 (by decide) (fun _ => ?_) (fun c_ => absurd (by decide) c_)
      refine lv_aload_n hx hb dX7_putIntoRow_78 rfl (lv_at hl 2 rfl) ?_
      refine lv_ifnonnull (tgt := 84) hx hb dX7_putIntoRow_79 (by decide) ?_
      refine lv_aload_n hx hb dX7_putIntoRow_84 rfl (lv_at hl 2 rfl) ?_
      refine lv_iload hx hb dX7_putIntoRow_85 (lv_at hl 0 rfl) ?_
      refine r_ki hw (r_runV (rest := []) hC hw (100 + 4 * (aN ((sA κ 3 (aN xb)) - 1))) (c_X6_hasPlace l _ _ (100 + 4 * (aN ((sA κ 3 (aN xb)) - 1))) (sA κ 2 (aN xc)) hl_b hc_b) rk6 hl_b hc_b 1 gX7_putIntoRow_X6_hasPlace rfl rfl rfl (by decide +kernel) ⟨Nat.le_of_ble_eq_true rfl, Nat.le_of_ble_eq_true rfl⟩ rfl hl.1 rfl (Nat.le_of_ble_eq_true rfl) dX7_putIntoRow_87 ⟨Nat.le_of_ble_eq_true rfl, Nat.le_of_ble_eq_true rfl⟩) (fun r_29 u_30 H locs h_28 hw => ?_)
      rw [hp_eq hk_b.2] at h_28
      by_cases c_31 : pIn (sA κ 2 (aN xc)) 0 ((sA κ 5 (aN ((sA κ 3 (aN xb)) - 1))) - 1)
      · rw [if_pos c_31] at h_28
        subst h_28
        have hix := ixN hB_b.1 c_31 hk_b.2
        refine lv_if_ne (tgt := 95) hx hb dX7_putIntoRow_90 (by decide) (fun _ => ?_) (fun c_ => absurd c_ (by decide))
        refine lv_aload_n hx hb dX7_putIntoRow_95 rfl (lv_at hl 2 rfl) ?_
        refine r_get hC hw rk6 in_X7_putIntoRow_6 (100 + 4 * (aN ((sA κ 3 (aN xb)) - 1))) hl_b hc_b 0 (by decide) lk_X7_putIntoRow_145 (v := .int (sA κ 4 (aN ((sA κ 3 (aN xb)) - 1)))) rfl dX7_putIntoRow_96 ?_
        refine lv_bipush (v := 9) hx hb dX7_putIntoRow_99 (by decide) ?_
        refine lv_icmp_ne (tgt := 116) hx hb dX7_putIntoRow_101 (by decide) (fun _ => ?_) (fun c_ => absurd c_ (fun h => by rw [h] at c_22; exact absurd c_22 (by decide)))
        refine lv_iload_n hx hb dX7_putIntoRow_116 rfl (lv_at hl 5 rfl) ?_
        refine lv_iconst (v := 4) hx hb dX7_putIntoRow_117 (by decide) ?_
        refine lv_icmp_gt (tgt := 146) hx hb dX7_putIntoRow_118 (by decide) (fun _ => ?_) (fun c_ => absurd (by decide) c_)
        refine lv_iload_n hx hb dX7_putIntoRow_146 rfl (lv_at hl 5 rfl) ?_
        refine lv_iconst (v := 5) hx hb dX7_putIntoRow_147 (by decide) ?_
        refine lv_icmp_ne (tgt := 171) hx hb dX7_putIntoRow_148 (by decide) (fun _ => ?_) (fun c_ => absurd c_ (by decide))
        refine lv_iload_n hx hb dX7_putIntoRow_171 rfl (lv_at hl 5 rfl) ?_
        refine lv_bipush (v := 6) hx hb dX7_putIntoRow_172 (by decide) ?_
        refine lv_icmp_ne (tgt := 198) hx hb dX7_putIntoRow_174 (by decide) (fun _ => ?_) (fun c_ => absurd c_ (by decide))
        refine lv_iload_n hx hb dX7_putIntoRow_198 rfl (lv_at hl 5 rfl) ?_
        refine lv_bipush (v := 7) hx hb dX7_putIntoRow_199 (by decide) ?_
        refine lv_icmp_ne (tgt := 224) hx hb dX7_putIntoRow_201 (by decide) (fun c_ => absurd (by decide) c_) (fun _ => ?_)
        refine lv_aload_n hx hb dX7_putIntoRow_204 rfl (lv_at hl 2 rfl) ?_
        refine lv_iload hx hb dX7_putIntoRow_205 (lv_at hl 0 rfl) ?_
        refine lv_aload_n hx hb dX7_putIntoRow_207 rfl (lv_at hl 3 rfl) ?_
        refine r_get hC hw rk7 in_X7_putIntoRow_7 5 (wXl 5 (by decide)) wXc5 0 (by decide) lk_X7_putIntoRow_9 (v := .ref (ad 2)) rfl dX7_putIntoRow_208 ?_
        refine lv_aload_n hx hb dX7_putIntoRow_211 rfl (lv_at hl 4 rfl) ?_
        refine r_get hC hw rk5 in_X7_putIntoRow_5 ρ hst.1 hst.2 1 (by decide) lk_X7_putIntoRow_69 (v := .int xa) rfl dX7_putIntoRow_212 ?_
        refine r_kd hw (r_runV (rest := [.int (sA κ 2 (aN xc)), .ref (ad (100 + 4 * (aN ((sA κ 3 (aN xb)) - 1))))]) hC hw 2 (c_X3_getDouble l _ _ 2 11 xa (wXl 2 (by decide)) wXc2 (wXl 11 (by decide)) wXc11) rk3 (wXl 2 (by decide)) wXc2 1 gX7_putIntoRow_X3_getDouble rfl rfl rfl (by decide +kernel) ⟨Nat.le_of_ble_eq_true rfl, Nat.le_of_ble_eq_true rfl⟩ rfl hl.1 rfl (Nat.le_of_ble_eq_true rfl) dX7_putIntoRow_215 ⟨Nat.le_of_ble_eq_true rfl, Nat.le_of_ble_eq_true rfl⟩) (fun r_33 u_34 H locs h_32 hw => ?_)
        subst h_32
        refine r_topv (y := .double (sD κ 0 (aN xa))) (congrArg _ (gN_in (by assumption) (by decide))) ?_
        have hkd : sA κ 4 (aN ((sA κ 3 (aN xb)) - 1)) = 6 ∨ sA κ 4 (aN ((sA κ 3 (aN xb)) - 1)) = 7 := kd67 c_22
        refine r_kv hw (r_runV (rest := []) hC hw (100 + 4 * (aN ((sA κ 3 (aN xb)) - 1))) (c_X6_setPoint (x2 := .null) l _ _ (100 + 4 * (aN ((sA κ 3 (aN xb)) - 1))) (102 + 4 * (aN ((sA κ 3 (aN xb)) - 1))) (sA κ 2 (aN xc)) (sD κ 0 (aN xa)) (lnP_in hkd hix.2.2) (lnP_31 hk_b.2) hl_b hc_b (thl2 hB_b.2) (thc2 h6_b)) rk6 hl_b hc_b 2 gX7_putIntoRow_X6_setPoint rfl rfl rfl (by decide +kernel) ⟨Nat.le_of_ble_eq_true rfl, Nat.le_of_ble_eq_true rfl⟩ rfl hl.1 rfl (Nat.le_of_ble_eq_true rfl) dX7_putIntoRow_218 ⟨Nat.le_of_ble_eq_true rfl, Nat.le_of_ble_eq_true rfl⟩) (fun u_37 H locs h_35 hw => ?_)
        replace hw := xT_pt h6_b hix.2.1 hw
        rw [← hix.1] at hw
        refine lv_goto (tgt := 232) hx hb dX7_putIntoRow_221 (by decide) ?_
        refine lv_iconst (v := 0) hx hb dX7_putIntoRow_232 (by decide) ?_
        exact r_iret hC hr hlk hw (uD κ 1 (aN ((12 * ((sA κ 3 (aN xb)) - 1)) + (sA κ 2 (aN xc)))) (sD κ 0 (aN xa))) rfl (doR0 (κ := κ) (hd := hd) (th := th) (k := 56) (a := xa) (b := xb) (c := xc) ((if_neg w_23).trans ((if_neg n_4).trans (if_pos c_31)))).symm (Nat.le_of_ble_eq_true rfl) (Nat.le_of_ble_eq_true rfl) dX7_putIntoRow_233
      · rw [if_neg c_31] at h_28
        subst h_28
        refine lv_if_ne (tgt := 95) hx hb dX7_putIntoRow_90 (by decide) (fun c_ => absurd (by decide) c_) (fun _ => ?_)
        refine lv_iconst (v := 2) hx hb dX7_putIntoRow_93 (by decide) ?_
        exact r_iret hC hr hlk hw κ rfl (doRf (κ := κ) (hd := hd) (th := th) (k := 56) (a := xa) (b := xb) (c := xc) ((if_neg w_23).trans ((if_neg n_4).trans (if_neg c_31))) (by decide)).symm (Nat.le_of_ble_eq_true rfl) (Nat.le_of_ble_eq_true rfl) dX7_putIntoRow_94
    · rw [if_neg c_22] at h_19
      subst h_19
      have w_38 : pWrong κ (sA κ 3 (aN xb)) 7 := ⟨n_4, c_22⟩
      refine lv_if_ne (tgt := 76) hx hb dX7_putIntoRow_53 (by decide) (fun _ => ?_) (fun c_ => absurd c_ (by decide))
      refine lv_iconst (v := 4) hx hb dX7_putIntoRow_76 (by decide) ?_
      exact r_iret hC hr hlk hw κ rfl (doRf (κ := κ) (hd := hd) (th := th) (k := 56) (a := xa) (b := xb) (c := xc) (if_pos w_38) (by decide)).symm (Nat.le_of_ble_eq_true rfl) (Nat.le_of_ble_eq_true rfl) dX7_putIntoRow_77

set_option maxHeartbeats 4000000 in
set_option maxRecDepth 100000 in
theorem c_X7_putIntoRow_57 (l : Launch) {D : va_G} {q : Nat → ClassId} {ad : Nat → Nat} {κ : KS} {τ : TAU} (sz : Nat) (ρ : Nat) (xa xb xc hd th : Int32) (hst : stepAt q ad κ τ ρ 57 xa xb xc) (hs : okStep 57 xa xb xc)(hX : WFx κ) (hN : nnOp κ 57 xa xb xc) : Met l yX7_putIntoRow wsX7_putIntoRow (rmz 2 42) (va_Pc [.ref (ad 5), .ref (ad ρ), .int 8] (rPre D q (wX q ad κ τ) sz)) (va_Qi (fun (r : Int32) (u : KS) => (r, u) = doR κ hd th 57 xa xb xc) (fun (u : KS) tt => rPo D (rA (wX q ad κ τ) sz) (wX q ad u τ) tt) (rA (wX q ad κ τ) sz)) 0 0 (rA (wX q ad κ τ) sz) := by
  have hi0 : vp_in xa 8 := hs.1
  have hi1 : vp_in xb 8 := hs.2.1
  have hi2 : vp_in xc 8 := hs.2.2
  refine r_start (cc := cX7_putIntoRow) (maxL := 6) (ret := (some .int)) (by decide) rfl (Nat.le_of_ble_eq_true rfl) ?_
  intro p e s m below meth c ls hC hr hlk hnm hsz hw hl
  have hx := hC.1
  have hb := hC.2.1
  have hl : lv_has ls 6 [(0, .ref (ad 5)), (1, .ref (ad ρ)), (2, .int 8)] := hl
  refine lv_aload_n hx hb dX7_putIntoRow_0 rfl (lv_at hl 0 rfl) ?_
  refine r_get hC hw rk7 in_X7_putIntoRow_7 5 (wXl 5 (by decide)) wXc5 0 (by decide) lk_X7_putIntoRow_9 (v := .ref (ad 2)) rfl dX7_putIntoRow_1 ?_
  refine lv_aload_n hx hb dX7_putIntoRow_4 rfl (lv_at hl 1 rfl) ?_
  refine r_get hC hw rk5 in_X7_putIntoRow_5 ρ hst.1 hst.2 2 (by decide) lk_X7_putIntoRow_74 (v := .int xb) rfl dX7_putIntoRow_5 ?_
  refine r_kq hw (r_runV (rest := []) hC hw 2 (c_X3_getThing l _ _ 2 12 xb (wXl 2 (by decide)) wXc2 (wXl 12 (by decide)) wXc12) rk3 (wXl 2 (by decide)) wXc2 1 gX7_putIntoRow_X3_getThing rfl rfl rfl (by decide +kernel) ⟨Nat.le_of_ble_eq_true rfl, Nat.le_of_ble_eq_true rfl⟩ rfl hl.1 rfl (Nat.le_of_ble_eq_true rfl) dX7_putIntoRow_8 ⟨Nat.le_of_ble_eq_true rfl, Nat.le_of_ble_eq_true rfl⟩) (fun r_2 u_3 H locs h_1 hw => ?_)
  subst h_1
  by_cases n_4 : (sA κ 3 (aN xb)) = 0
  · refine r_topv (y := .null) (by rw [gN_in (by assumption) (by decide)]; show va_rf ((rT (sA κ 3 (aN xb))).map ad) = _; rw [rT0 n_4]; rfl) ?_
    refine lv_astore_nN (lv' := [(3, .null), (0, .ref (ad 5)), (1, .ref (ad ρ)), (2, .int 8)]) hx hb dX7_putIntoRow_11 rfl hl (by decide) rfl (fun ls hl => ?_)
    refine lv_iload_n hx hb dX7_putIntoRow_12 rfl (lv_at hl 3 rfl) ?_
    refine lv_bipush (v := 8) hx hb dX7_putIntoRow_13 (by decide) ?_
    refine lv_icmp_lt (tgt := 32) hx hb dX7_putIntoRow_15 (by decide) (fun c_ => absurd c_ (by decide)) (fun _ => ?_)
    refine lv_aload_n hx hb dX7_putIntoRow_18 rfl (lv_at hl 1 rfl) ?_
    refine r_get hC hw rk7 in_X7_putIntoRow_7 5 (wXl 5 (by decide)) wXc5 0 (by decide) lk_X7_putIntoRow_9 (v := .ref (ad 2)) rfl dX7_putIntoRow_19 ?_
    refine lv_aload_n hx hb dX7_putIntoRow_22 rfl (lv_at hl 2 rfl) ?_
    refine r_get hC hw rk5 in_X7_putIntoRow_5 ρ hst.1 hst.2 1 (by decide) lk_X7_putIntoRow_69 (v := .int xa) rfl dX7_putIntoRow_23 ?_
    refine r_kq hw (r_runV (rest := []) hC hw 2 (c_X3_getThing l _ _ 2 12 xa (wXl 2 (by decide)) wXc2 (wXl 12 (by decide)) wXc12) rk3 (wXl 2 (by decide)) wXc2 1 gX7_putIntoRow_X3_getThing rfl rfl rfl (by decide +kernel) ⟨Nat.le_of_ble_eq_true rfl, Nat.le_of_ble_eq_true rfl⟩ rfl hl.1 rfl (Nat.le_of_ble_eq_true rfl) dX7_putIntoRow_26 ⟨Nat.le_of_ble_eq_true rfl, Nat.le_of_ble_eq_true rfl⟩) (fun r_6 u_7 H locs h_5 hw => ?_)
    subst h_5
    by_cases n_8 : (sA κ 3 (aN xa)) = 0
    · refine r_topv (y := .null) (by rw [gN_in (by assumption) (by decide)]; show va_rf ((rT (sA κ 3 (aN xa))).map ad) = _; rw [rT0 n_8]; rfl) ?_
      refine lv_goto (tgt := 33) hx hb dX7_putIntoRow_29 (by decide) ?_
      refine lv_astoreN (lv' := [(4, .null), (3, .null), (0, .ref (ad 5)), (1, .ref (ad ρ)), (2, .int 8)]) hx hb dX7_putIntoRow_33 hl (by decide) rfl (fun ls hl => ?_)
      refine lv_aload_n hx hb dX7_putIntoRow_35 rfl (lv_at hl 2 rfl) ?_
      refine r_get hC hw rk7 in_X7_putIntoRow_7 5 (wXl 5 (by decide)) wXc5 0 (by decide) lk_X7_putIntoRow_9 (v := .ref (ad 2)) rfl dX7_putIntoRow_36 ?_
      refine lv_aload_n hx hb dX7_putIntoRow_39 rfl (lv_at hl 3 rfl) ?_
      refine r_get hC hw rk5 in_X7_putIntoRow_5 ρ hst.1 hst.2 3 (by decide) lk_X7_putIntoRow_57 (v := .int xc) rfl dX7_putIntoRow_40 ?_
      refine r_ki hw (r_runV (rest := []) hC hw 2 (c_X3_getWord l _ _ 2 8 xc (wXl 2 (by decide)) wXc2 (wXl 8 (by decide)) wXc8) rk3 (wXl 2 (by decide)) wXc2 1 gX7_putIntoRow_X3_getWord rfl rfl rfl (by decide +kernel) ⟨Nat.le_of_ble_eq_true rfl, Nat.le_of_ble_eq_true rfl⟩ rfl hl.1 rfl (Nat.le_of_ble_eq_true rfl) dX7_putIntoRow_43 ⟨Nat.le_of_ble_eq_true rfl, Nat.le_of_ble_eq_true rfl⟩) (fun r_10 u_11 H locs h_9 hw => ?_)
      subst h_9
      refine r_topv (y := .int (sA κ 2 (aN xc))) (congrArg _ (gN_in (by assumption) (by decide))) ?_
      refine lv_istore (lv' := [(5, .int (sA κ 2 (aN xc))), (4, .null), (3, .null), (0, .ref (ad 5)), (1, .ref (ad ρ)), (2, .int 8)]) hx hb dX7_putIntoRow_46 hl (by decide) rfl (fun ls hl => ?_)
      refine lv_aload_nN hx hb dX7_putIntoRow_48 rfl (lv_at hl 2 rfl) ?_
      refine lv_iload_n hx hb dX7_putIntoRow_49 rfl (lv_at hl 5 rfl) ?_
      refine r_ki hw (r_runSN (rest := []) hC hw hw.1.2.1 lks_X7_putIntoRow lkz_X7_putIntoRow_94 (c_X8_misfitsN_8 l _ _) 2 gX7_putIntoRow_X8_misfits_n94 rfl rfl rfl (by decide +kernel) ⟨Nat.le_of_ble_eq_true rfl, Nat.le_of_ble_eq_true rfl⟩ rfl hl.1 rfl (Nat.le_of_ble_eq_true rfl) dX7_putIntoRow_50 ⟨Nat.le_of_ble_eq_true rfl, Nat.le_of_ble_eq_true rfl⟩) (fun r_13 u_14 H locs h_12 hw => ?_)
      subst h_12
      have w_15 : ¬ pWrong κ (sA κ 3 (aN xb)) 8 := fun h => h.1 n_4
      refine lv_if_ne (tgt := 76) hx hb dX7_putIntoRow_53 (by decide) (fun c_ => absurd (by decide) c_) (fun _ => ?_)
      refine lv_aloadN hx hb dX7_putIntoRow_56 (lv_at hl 1 rfl) ?_
      refine lv_iload_n hx hb dX7_putIntoRow_58 rfl (lv_at hl 5 rfl) ?_
      refine lv_bipush (v := 10) hx hb dX7_putIntoRow_59 (by decide) ?_
      refine lv_icmp_ne (tgt := 68) hx hb dX7_putIntoRow_61 (by decide) (fun _ => ?_) (fun c_ => absurd c_ (by decide))
      refine lv_bipush (v := 11) hx hb dX7_putIntoRow_68 (by decide) ?_
      refine r_ki hw (r_runSN (rest := []) hC hw hw.1.2.1 lks_X7_putIntoRow lkz_X7_putIntoRow_94 (c_X8_misfitsN_11 l _ _) 2 gX7_putIntoRow_X8_misfits_n94 rfl rfl rfl (by decide +kernel) ⟨Nat.le_of_ble_eq_true rfl, Nat.le_of_ble_eq_true rfl⟩ rfl hl.1 rfl (Nat.le_of_ble_eq_true rfl) dX7_putIntoRow_70 ⟨Nat.le_of_ble_eq_true rfl, Nat.le_of_ble_eq_true rfl⟩) (fun r_17 u_18 H locs h_16 hw => ?_)
      subst h_16
      have w_19 : ¬ pWrong κ (sA κ 3 (aN xa)) 11 := fun h => h.1 n_8
      refine lv_if_eq (tgt := 78) hx hb dX7_putIntoRow_73 (by decide) (fun _ => ?_) (fun c_ => absurd (by decide) c_)
      refine lv_aload_nN hx hb dX7_putIntoRow_78 rfl (lv_at hl 2 rfl) ?_
      refine lv_ifnonnullN hx hb dX7_putIntoRow_79 ?_
      refine lv_iconst (v := 1) hx hb dX7_putIntoRow_82 (by decide) ?_
      exact r_iret hC hr hlk hw κ rfl (doRf (κ := κ) (hd := hd) (th := th) (k := 57) (a := xa) (b := xb) (c := xc) ((if_neg w_15).trans ((if_neg w_19).trans (if_pos n_4))) (by decide)).symm (Nat.le_of_ble_eq_true rfl) (Nat.le_of_ble_eq_true rfl) dX7_putIntoRow_83
    · refine r_topv (y := .ref (ad (100 + 4 * (aN ((sA κ 3 (aN xa)) - 1))))) (by rw [gN_in (by assumption) (by decide)]; show va_rf ((rT (sA κ 3 (aN xa))).map ad) = _; rw [rT1 n_8]; rfl) ?_
      have hB_a := hX.2.1 xa (by assumption) n_8
      have h6_a : (aN ((sA κ 3 (aN xa)) - 1)) < 60 := Nat.lt_of_lt_of_le hB_a.2 hX.1
      have hl_a : (wX q ad κ τ).2.1 (100 + 4 * (aN ((sA κ 3 (aN xa)) - 1))) := thl hB_a.2
      have hc_a : (wX q ad κ τ).2.2 (100 + 4 * (aN ((sA κ 3 (aN xa)) - 1))) = .inr (6, fsT ad κ (aN ((sA κ 3 (aN xa)) - 1))) := thc h6_a
      have hk_a := hX.2.2.1 _ hB_a.2
      refine lv_goto (tgt := 33) hx hb dX7_putIntoRow_29 (by decide) ?_
      refine lv_astore (lv' := [(4, .ref (ad (100 + 4 * (aN ((sA κ 3 (aN xa)) - 1))))), (3, .null), (0, .ref (ad 5)), (1, .ref (ad ρ)), (2, .int 8)]) hx hb dX7_putIntoRow_33 hl (by decide) rfl (fun ls hl => ?_)
      refine lv_aload_n hx hb dX7_putIntoRow_35 rfl (lv_at hl 2 rfl) ?_
      refine r_get hC hw rk7 in_X7_putIntoRow_7 5 (wXl 5 (by decide)) wXc5 0 (by decide) lk_X7_putIntoRow_9 (v := .ref (ad 2)) rfl dX7_putIntoRow_36 ?_
      refine lv_aload_n hx hb dX7_putIntoRow_39 rfl (lv_at hl 3 rfl) ?_
      refine r_get hC hw rk5 in_X7_putIntoRow_5 ρ hst.1 hst.2 3 (by decide) lk_X7_putIntoRow_57 (v := .int xc) rfl dX7_putIntoRow_40 ?_
      refine r_ki hw (r_runV (rest := []) hC hw 2 (c_X3_getWord l _ _ 2 8 xc (wXl 2 (by decide)) wXc2 (wXl 8 (by decide)) wXc8) rk3 (wXl 2 (by decide)) wXc2 1 gX7_putIntoRow_X3_getWord rfl rfl rfl (by decide +kernel) ⟨Nat.le_of_ble_eq_true rfl, Nat.le_of_ble_eq_true rfl⟩ rfl hl.1 rfl (Nat.le_of_ble_eq_true rfl) dX7_putIntoRow_43 ⟨Nat.le_of_ble_eq_true rfl, Nat.le_of_ble_eq_true rfl⟩) (fun r_21 u_22 H locs h_20 hw => ?_)
      subst h_20
      refine r_topv (y := .int (sA κ 2 (aN xc))) (congrArg _ (gN_in (by assumption) (by decide))) ?_
      refine lv_istore (lv' := [(5, .int (sA κ 2 (aN xc))), (4, .ref (ad (100 + 4 * (aN ((sA κ 3 (aN xa)) - 1))))), (3, .null), (0, .ref (ad 5)), (1, .ref (ad ρ)), (2, .int 8)]) hx hb dX7_putIntoRow_46 hl (by decide) rfl (fun ls hl => ?_)
      refine lv_aload_nN hx hb dX7_putIntoRow_48 rfl (lv_at hl 2 rfl) ?_
      refine lv_iload_n hx hb dX7_putIntoRow_49 rfl (lv_at hl 5 rfl) ?_
      refine r_ki hw (r_runSN (rest := []) hC hw hw.1.2.1 lks_X7_putIntoRow lkz_X7_putIntoRow_94 (c_X8_misfitsN_8 l _ _) 2 gX7_putIntoRow_X8_misfits_n94 rfl rfl rfl (by decide +kernel) ⟨Nat.le_of_ble_eq_true rfl, Nat.le_of_ble_eq_true rfl⟩ rfl hl.1 rfl (Nat.le_of_ble_eq_true rfl) dX7_putIntoRow_50 ⟨Nat.le_of_ble_eq_true rfl, Nat.le_of_ble_eq_true rfl⟩) (fun r_24 u_25 H locs h_23 hw => ?_)
      subst h_23
      have w_26 : ¬ pWrong κ (sA κ 3 (aN xb)) 8 := fun h => h.1 n_4
      refine lv_if_ne (tgt := 76) hx hb dX7_putIntoRow_53 (by decide) (fun c_ => absurd (by decide) c_) (fun _ => ?_)
      refine lv_aload hx hb dX7_putIntoRow_56 (lv_at hl 1 rfl) ?_
      refine lv_iload_n hx hb dX7_putIntoRow_58 rfl (lv_at hl 5 rfl) ?_
      refine lv_bipush (v := 10) hx hb dX7_putIntoRow_59 (by decide) ?_
      refine lv_icmp_ne (tgt := 68) hx hb dX7_putIntoRow_61 (by decide) (fun _ => ?_) (fun c_ => absurd c_ (by decide))
      refine lv_bipush (v := 11) hx hb dX7_putIntoRow_68 (by decide) ?_
      refine r_ki hw (r_runSN (rest := []) hC hw hw.1.2.1 lks_X7_putIntoRow lkz_X7_putIntoRow_94 (c_X8_misfits_11 l _ _ (100 + 4 * (aN ((sA κ 3 (aN xa)) - 1))) hk_a.1 hl_a hc_a) 2 gX7_putIntoRow_X8_misfits_n94 rfl rfl rfl (by decide +kernel) ⟨Nat.le_of_ble_eq_true rfl, Nat.le_of_ble_eq_true rfl⟩ rfl hl.1 rfl (Nat.le_of_ble_eq_true rfl) dX7_putIntoRow_70 ⟨Nat.le_of_ble_eq_true rfl, Nat.le_of_ble_eq_true rfl⟩) (fun r_28 u_29 H locs h_27 hw => ?_)
      by_cases c_30 : pOf (sA κ 4 (aN ((sA κ 3 (aN xa)) - 1))) 11
      · rw [if_pos c_30] at h_27
        subst h_27
        have w_31 : ¬ pWrong κ (sA κ 3 (aN xa)) 11 := fun h => h.2 c_30
        refine lv_if_eq (tgt := 78) hx hb dX7_putIntoRow_73 (by decide) (fun _ => ?_) (fun c_ => absurd (by decide) c_)
        refine lv_aload_nN hx hb dX7_putIntoRow_78 rfl (lv_at hl 2 rfl) ?_
        refine lv_ifnonnullN hx hb dX7_putIntoRow_79 ?_
        refine lv_iconst (v := 1) hx hb dX7_putIntoRow_82 (by decide) ?_
        exact r_iret hC hr hlk hw κ rfl (doRf (κ := κ) (hd := hd) (th := th) (k := 57) (a := xa) (b := xb) (c := xc) ((if_neg w_26).trans ((if_neg w_31).trans (if_pos n_4))) (by decide)).symm (Nat.le_of_ble_eq_true rfl) (Nat.le_of_ble_eq_true rfl) dX7_putIntoRow_83
      · rw [if_neg c_30] at h_27
        subst h_27
        have w_32 : pWrong κ (sA κ 3 (aN xa)) 11 := ⟨n_8, c_30⟩
        refine lv_if_eq (tgt := 78) hx hb dX7_putIntoRow_73 (by decide) (fun c_ => absurd c_ (by decide)) (fun _ => ?_)
        refine lv_iconst (v := 4) hx hb dX7_putIntoRow_76 (by decide) ?_
        exact r_iret hC hr hlk hw κ rfl (doRf (κ := κ) (hd := hd) (th := th) (k := 57) (a := xa) (b := xb) (c := xc) ((if_neg w_26).trans (if_pos w_32)) (by decide)).symm (Nat.le_of_ble_eq_true rfl) (Nat.le_of_ble_eq_true rfl) dX7_putIntoRow_77
  · refine r_topv (y := .ref (ad (100 + 4 * (aN ((sA κ 3 (aN xb)) - 1))))) (by rw [gN_in (by assumption) (by decide)]; show va_rf ((rT (sA κ 3 (aN xb))).map ad) = _; rw [rT1 n_4]; rfl) ?_
    have hB_b := hX.2.1 xb (by assumption) n_4
    have h6_b : (aN ((sA κ 3 (aN xb)) - 1)) < 60 := Nat.lt_of_lt_of_le hB_b.2 hX.1
    have hl_b : (wX q ad κ τ).2.1 (100 + 4 * (aN ((sA κ 3 (aN xb)) - 1))) := thl hB_b.2
    have hc_b : (wX q ad κ τ).2.2 (100 + 4 * (aN ((sA κ 3 (aN xb)) - 1))) = .inr (6, fsT ad κ (aN ((sA κ 3 (aN xb)) - 1))) := thc h6_b
    have hk_b := hX.2.2.1 _ hB_b.2
    refine lv_astore_n (lv' := [(3, .ref (ad (100 + 4 * (aN ((sA κ 3 (aN xb)) - 1))))), (0, .ref (ad 5)), (1, .ref (ad ρ)), (2, .int 8)]) hx hb dX7_putIntoRow_11 rfl hl (by decide) rfl (fun ls hl => ?_)
    refine lv_iload_n hx hb dX7_putIntoRow_12 rfl (lv_at hl 3 rfl) ?_
    refine lv_bipush (v := 8) hx hb dX7_putIntoRow_13 (by decide) ?_
    refine lv_icmp_lt (tgt := 32) hx hb dX7_putIntoRow_15 (by decide) (fun c_ => absurd c_ (by decide)) (fun _ => ?_)
    refine lv_aload_n hx hb dX7_putIntoRow_18 rfl (lv_at hl 1 rfl) ?_
    refine r_get hC hw rk7 in_X7_putIntoRow_7 5 (wXl 5 (by decide)) wXc5 0 (by decide) lk_X7_putIntoRow_9 (v := .ref (ad 2)) rfl dX7_putIntoRow_19 ?_
    refine lv_aload_n hx hb dX7_putIntoRow_22 rfl (lv_at hl 2 rfl) ?_
    refine r_get hC hw rk5 in_X7_putIntoRow_5 ρ hst.1 hst.2 1 (by decide) lk_X7_putIntoRow_69 (v := .int xa) rfl dX7_putIntoRow_23 ?_
    refine r_kq hw (r_runV (rest := []) hC hw 2 (c_X3_getThing l _ _ 2 12 xa (wXl 2 (by decide)) wXc2 (wXl 12 (by decide)) wXc12) rk3 (wXl 2 (by decide)) wXc2 1 gX7_putIntoRow_X3_getThing rfl rfl rfl (by decide +kernel) ⟨Nat.le_of_ble_eq_true rfl, Nat.le_of_ble_eq_true rfl⟩ rfl hl.1 rfl (Nat.le_of_ble_eq_true rfl) dX7_putIntoRow_26 ⟨Nat.le_of_ble_eq_true rfl, Nat.le_of_ble_eq_true rfl⟩) (fun r_34 u_35 H locs h_33 hw => ?_)
    subst h_33
    by_cases n_36 : (sA κ 3 (aN xa)) = 0
    · refine r_topv (y := .null) (by rw [gN_in (by assumption) (by decide)]; show va_rf ((rT (sA κ 3 (aN xa))).map ad) = _; rw [rT0 n_36]; rfl) ?_
      refine lv_goto (tgt := 33) hx hb dX7_putIntoRow_29 (by decide) ?_
      refine lv_astoreN (lv' := [(4, .null), (3, .ref (ad (100 + 4 * (aN ((sA κ 3 (aN xb)) - 1))))), (0, .ref (ad 5)), (1, .ref (ad ρ)), (2, .int 8)]) hx hb dX7_putIntoRow_33 hl (by decide) rfl (fun ls hl => ?_)
      refine lv_aload_n hx hb dX7_putIntoRow_35 rfl (lv_at hl 2 rfl) ?_
      refine r_get hC hw rk7 in_X7_putIntoRow_7 5 (wXl 5 (by decide)) wXc5 0 (by decide) lk_X7_putIntoRow_9 (v := .ref (ad 2)) rfl dX7_putIntoRow_36 ?_
      refine lv_aload_n hx hb dX7_putIntoRow_39 rfl (lv_at hl 3 rfl) ?_
      refine r_get hC hw rk5 in_X7_putIntoRow_5 ρ hst.1 hst.2 3 (by decide) lk_X7_putIntoRow_57 (v := .int xc) rfl dX7_putIntoRow_40 ?_
      refine r_ki hw (r_runV (rest := []) hC hw 2 (c_X3_getWord l _ _ 2 8 xc (wXl 2 (by decide)) wXc2 (wXl 8 (by decide)) wXc8) rk3 (wXl 2 (by decide)) wXc2 1 gX7_putIntoRow_X3_getWord rfl rfl rfl (by decide +kernel) ⟨Nat.le_of_ble_eq_true rfl, Nat.le_of_ble_eq_true rfl⟩ rfl hl.1 rfl (Nat.le_of_ble_eq_true rfl) dX7_putIntoRow_43 ⟨Nat.le_of_ble_eq_true rfl, Nat.le_of_ble_eq_true rfl⟩) (fun r_38 u_39 H locs h_37 hw => ?_)
      subst h_37
      refine r_topv (y := .int (sA κ 2 (aN xc))) (congrArg _ (gN_in (by assumption) (by decide))) ?_
      refine lv_istore (lv' := [(5, .int (sA κ 2 (aN xc))), (4, .null), (3, .ref (ad (100 + 4 * (aN ((sA κ 3 (aN xb)) - 1))))), (0, .ref (ad 5)), (1, .ref (ad ρ)), (2, .int 8)]) hx hb dX7_putIntoRow_46 hl (by decide) rfl (fun ls hl => ?_)
      refine lv_aload_n hx hb dX7_putIntoRow_48 rfl (lv_at hl 2 rfl) ?_
      refine lv_iload_n hx hb dX7_putIntoRow_49 rfl (lv_at hl 5 rfl) ?_
      refine r_ki hw (r_runSN (rest := []) hC hw hw.1.2.1 lks_X7_putIntoRow lkz_X7_putIntoRow_94 (c_X8_misfits_8 l _ _ (100 + 4 * (aN ((sA κ 3 (aN xb)) - 1))) hk_b.1 hl_b hc_b) 2 gX7_putIntoRow_X8_misfits_n94 rfl rfl rfl (by decide +kernel) ⟨Nat.le_of_ble_eq_true rfl, Nat.le_of_ble_eq_true rfl⟩ rfl hl.1 rfl (Nat.le_of_ble_eq_true rfl) dX7_putIntoRow_50 ⟨Nat.le_of_ble_eq_true rfl, Nat.le_of_ble_eq_true rfl⟩) (fun r_41 u_42 H locs h_40 hw => ?_)
      by_cases c_43 : pOf (sA κ 4 (aN ((sA κ 3 (aN xb)) - 1))) 8
      · rw [if_pos c_43] at h_40
        subst h_40
        have w_44 : ¬ pWrong κ (sA κ 3 (aN xb)) 8 := fun h => h.2 c_43
        refine lv_if_ne (tgt := 76) hx hb dX7_putIntoRow_53 (by decide) (fun c_ => absurd (by decide) c_) (fun _ => ?_)
        refine lv_aloadN hx hb dX7_putIntoRow_56 (lv_at hl 1 rfl) ?_
        refine lv_iload_n hx hb dX7_putIntoRow_58 rfl (lv_at hl 5 rfl) ?_
        refine lv_bipush (v := 10) hx hb dX7_putIntoRow_59 (by decide) ?_
        refine lv_icmp_ne (tgt := 68) hx hb dX7_putIntoRow_61 (by decide) (fun _ => ?_) (fun c_ => absurd c_ (by decide))
        refine lv_bipush (v := 11) hx hb dX7_putIntoRow_68 (by decide) ?_
        refine r_ki hw (r_runSN (rest := []) hC hw hw.1.2.1 lks_X7_putIntoRow lkz_X7_putIntoRow_94 (c_X8_misfitsN_11 l _ _) 2 gX7_putIntoRow_X8_misfits_n94 rfl rfl rfl (by decide +kernel) ⟨Nat.le_of_ble_eq_true rfl, Nat.le_of_ble_eq_true rfl⟩ rfl hl.1 rfl (Nat.le_of_ble_eq_true rfl) dX7_putIntoRow_70 ⟨Nat.le_of_ble_eq_true rfl, Nat.le_of_ble_eq_true rfl⟩) (fun r_46 u_47 H locs h_45 hw => ?_)
        subst h_45
        have w_48 : ¬ pWrong κ (sA κ 3 (aN xa)) 11 := fun h => h.1 n_36
        refine lv_if_eq (tgt := 78) hx hb dX7_putIntoRow_73 (by decide) (fun _ => ?_) (fun c_ => absurd (by decide) c_)
        refine lv_aload_n hx hb dX7_putIntoRow_78 rfl (lv_at hl 2 rfl) ?_
        refine lv_ifnonnull (tgt := 84) hx hb dX7_putIntoRow_79 (by decide) ?_
        refine lv_aload_n hx hb dX7_putIntoRow_84 rfl (lv_at hl 2 rfl) ?_
        refine lv_iload hx hb dX7_putIntoRow_85 (lv_at hl 0 rfl) ?_
        refine r_ki hw (r_runV (rest := []) hC hw (100 + 4 * (aN ((sA κ 3 (aN xb)) - 1))) (c_X6_hasPlace l _ _ (100 + 4 * (aN ((sA κ 3 (aN xb)) - 1))) (sA κ 2 (aN xc)) hl_b hc_b) rk6 hl_b hc_b 1 gX7_putIntoRow_X6_hasPlace rfl rfl rfl (by decide +kernel) ⟨Nat.le_of_ble_eq_true rfl, Nat.le_of_ble_eq_true rfl⟩ rfl hl.1 rfl (Nat.le_of_ble_eq_true rfl) dX7_putIntoRow_87 ⟨Nat.le_of_ble_eq_true rfl, Nat.le_of_ble_eq_true rfl⟩) (fun r_50 u_51 H locs h_49 hw => ?_)
        rw [hp_eq hk_b.2] at h_49
        by_cases c_52 : pIn (sA κ 2 (aN xc)) 0 ((sA κ 5 (aN ((sA κ 3 (aN xb)) - 1))) - 1)
        · rw [if_pos c_52] at h_49
          subst h_49
          have hix := ixN hB_b.1 c_52 hk_b.2
          refine lv_if_ne (tgt := 95) hx hb dX7_putIntoRow_90 (by decide) (fun _ => ?_) (fun c_ => absurd c_ (by decide))
          refine lv_aload_n hx hb dX7_putIntoRow_95 rfl (lv_at hl 2 rfl) ?_
          refine r_get hC hw rk6 in_X7_putIntoRow_6 (100 + 4 * (aN ((sA κ 3 (aN xb)) - 1))) hl_b hc_b 0 (by decide) lk_X7_putIntoRow_145 (v := .int (sA κ 4 (aN ((sA κ 3 (aN xb)) - 1)))) rfl dX7_putIntoRow_96 ?_
          refine lv_bipush (v := 9) hx hb dX7_putIntoRow_99 (by decide) ?_
          refine lv_icmp_ne (tgt := 116) hx hb dX7_putIntoRow_101 (by decide) (fun c_53 => ?_) (fun c_53 => ?_)
          · refine lv_iload_n hx hb dX7_putIntoRow_116 rfl (lv_at hl 5 rfl) ?_
            refine lv_iconst (v := 4) hx hb dX7_putIntoRow_117 (by decide) ?_
            refine lv_icmp_gt (tgt := 146) hx hb dX7_putIntoRow_118 (by decide) (fun _ => ?_) (fun c_ => absurd (by decide) c_)
            refine lv_iload_n hx hb dX7_putIntoRow_146 rfl (lv_at hl 5 rfl) ?_
            refine lv_iconst (v := 5) hx hb dX7_putIntoRow_147 (by decide) ?_
            refine lv_icmp_ne (tgt := 171) hx hb dX7_putIntoRow_148 (by decide) (fun _ => ?_) (fun c_ => absurd c_ (by decide))
            refine lv_iload_n hx hb dX7_putIntoRow_171 rfl (lv_at hl 5 rfl) ?_
            refine lv_bipush (v := 6) hx hb dX7_putIntoRow_172 (by decide) ?_
            refine lv_icmp_ne (tgt := 198) hx hb dX7_putIntoRow_174 (by decide) (fun _ => ?_) (fun c_ => absurd c_ (by decide))
            refine lv_iload_n hx hb dX7_putIntoRow_198 rfl (lv_at hl 5 rfl) ?_
            refine lv_bipush (v := 7) hx hb dX7_putIntoRow_199 (by decide) ?_
            refine lv_icmp_ne (tgt := 224) hx hb dX7_putIntoRow_201 (by decide) (fun _ => ?_) (fun c_ => absurd c_ (by decide))
            refine lv_aload_n hx hb dX7_putIntoRow_224 rfl (lv_at hl 2 rfl) ?_
            refine lv_iload hx hb dX7_putIntoRow_225 (lv_at hl 0 rfl) ?_
            refine lv_aloadN hx hb dX7_putIntoRow_227 (lv_at hl 1 rfl) ?_
            have hkd : 8 ≤ sA κ 4 (aN ((sA κ 3 (aN xb)) - 1)) ∧ sA κ 4 (aN ((sA κ 3 (aN xb)) - 1)) ≤ 10 := kd810 c_43
            refine r_kv hw (r_runV (rest := []) hC hw (100 + 4 * (aN ((sA κ 3 (aN xb)) - 1))) (c_X6_setMemberN (x3 := .null) l _ _ (100 + 4 * (aN ((sA κ 3 (aN xb)) - 1))) (103 + 4 * (aN ((sA κ 3 (aN xb)) - 1))) (sA κ 2 (aN xc)) (lnM_in hkd hix.2.2) (lnM_31 hk_b.2) hl_b hc_b (thl3 hB_b.2) (thc3 h6_b)) rk6 hl_b hc_b 2 gX7_putIntoRow_X6_setMember rfl rfl rfl (by decide +kernel) ⟨Nat.le_of_ble_eq_true rfl, Nat.le_of_ble_eq_true rfl⟩ rfl hl.1 rfl (Nat.le_of_ble_eq_true rfl) dX7_putIntoRow_229 ⟨Nat.le_of_ble_eq_true rfl, Nat.le_of_ble_eq_true rfl⟩) (fun u_56 H locs h_54 hw => ?_)
            replace hw := xT_mem h6_b hix.2.1 (v := sA κ 3 (aN xa)) (by rw [rT0 n_36]; rfl) hw
            rw [← hix.1] at hw
            refine lv_iconst (v := 0) hx hb dX7_putIntoRow_232 (by decide) ?_
            exact r_iret hC hr hlk hw (uA κ 6 (aN ((12 * ((sA κ 3 (aN xb)) - 1)) + (sA κ 2 (aN xc)))) (sA κ 3 (aN xa))) rfl (doR0 (κ := κ) (hd := hd) (th := th) (k := 57) (a := xa) (b := xb) (c := xc) ((if_neg w_44).trans ((if_neg w_48).trans ((if_neg n_4).trans ((if_pos c_52).trans (if_pos n_36)))))).symm (Nat.le_of_ble_eq_true rfl) (Nat.le_of_ble_eq_true rfl) dX7_putIntoRow_233
          · refine lv_aloadN hx hb dX7_putIntoRow_104 (lv_at hl 1 rfl) ?_
            refine lv_bipush (v := 12) hx hb dX7_putIntoRow_106 (by decide) ?_
            refine r_ki hw (r_runSN (rest := []) hC hw hw.1.2.1 lks_X7_putIntoRow lkz_X7_putIntoRow_94 (c_X8_misfitsN_12 l _ _) 2 gX7_putIntoRow_X8_misfits_n94 rfl rfl rfl (by decide +kernel) ⟨Nat.le_of_ble_eq_true rfl, Nat.le_of_ble_eq_true rfl⟩ rfl hl.1 rfl (Nat.le_of_ble_eq_true rfl) dX7_putIntoRow_108 ⟨Nat.le_of_ble_eq_true rfl, Nat.le_of_ble_eq_true rfl⟩) (fun r_58 u_59 H locs h_57 hw => ?_)
            subst h_57
            have w_60 : ¬ pWrong κ (sA κ 3 (aN xa)) 12 := fun h => h.1 n_36
            refine lv_if_eq (tgt := 116) hx hb dX7_putIntoRow_111 (by decide) (fun _ => ?_) (fun c_ => absurd (by decide) c_)
            refine lv_iload_n hx hb dX7_putIntoRow_116 rfl (lv_at hl 5 rfl) ?_
            refine lv_iconst (v := 4) hx hb dX7_putIntoRow_117 (by decide) ?_
            refine lv_icmp_gt (tgt := 146) hx hb dX7_putIntoRow_118 (by decide) (fun _ => ?_) (fun c_ => absurd (by decide) c_)
            refine lv_iload_n hx hb dX7_putIntoRow_146 rfl (lv_at hl 5 rfl) ?_
            refine lv_iconst (v := 5) hx hb dX7_putIntoRow_147 (by decide) ?_
            refine lv_icmp_ne (tgt := 171) hx hb dX7_putIntoRow_148 (by decide) (fun _ => ?_) (fun c_ => absurd c_ (by decide))
            refine lv_iload_n hx hb dX7_putIntoRow_171 rfl (lv_at hl 5 rfl) ?_
            refine lv_bipush (v := 6) hx hb dX7_putIntoRow_172 (by decide) ?_
            refine lv_icmp_ne (tgt := 198) hx hb dX7_putIntoRow_174 (by decide) (fun _ => ?_) (fun c_ => absurd c_ (by decide))
            refine lv_iload_n hx hb dX7_putIntoRow_198 rfl (lv_at hl 5 rfl) ?_
            refine lv_bipush (v := 7) hx hb dX7_putIntoRow_199 (by decide) ?_
            refine lv_icmp_ne (tgt := 224) hx hb dX7_putIntoRow_201 (by decide) (fun _ => ?_) (fun c_ => absurd c_ (by decide))
            refine lv_aload_n hx hb dX7_putIntoRow_224 rfl (lv_at hl 2 rfl) ?_
            refine lv_iload hx hb dX7_putIntoRow_225 (lv_at hl 0 rfl) ?_
            refine lv_aloadN hx hb dX7_putIntoRow_227 (lv_at hl 1 rfl) ?_
            have hkd : 8 ≤ sA κ 4 (aN ((sA κ 3 (aN xb)) - 1)) ∧ sA κ 4 (aN ((sA κ 3 (aN xb)) - 1)) ≤ 10 := kd810 c_43
            refine r_kv hw (r_runV (rest := []) hC hw (100 + 4 * (aN ((sA κ 3 (aN xb)) - 1))) (c_X6_setMemberN (x3 := .null) l _ _ (100 + 4 * (aN ((sA κ 3 (aN xb)) - 1))) (103 + 4 * (aN ((sA κ 3 (aN xb)) - 1))) (sA κ 2 (aN xc)) (lnM_in hkd hix.2.2) (lnM_31 hk_b.2) hl_b hc_b (thl3 hB_b.2) (thc3 h6_b)) rk6 hl_b hc_b 2 gX7_putIntoRow_X6_setMember rfl rfl rfl (by decide +kernel) ⟨Nat.le_of_ble_eq_true rfl, Nat.le_of_ble_eq_true rfl⟩ rfl hl.1 rfl (Nat.le_of_ble_eq_true rfl) dX7_putIntoRow_229 ⟨Nat.le_of_ble_eq_true rfl, Nat.le_of_ble_eq_true rfl⟩) (fun u_63 H locs h_61 hw => ?_)
            replace hw := xT_mem h6_b hix.2.1 (v := sA κ 3 (aN xa)) (by rw [rT0 n_36]; rfl) hw
            rw [← hix.1] at hw
            refine lv_iconst (v := 0) hx hb dX7_putIntoRow_232 (by decide) ?_
            exact r_iret hC hr hlk hw (uA κ 6 (aN ((12 * ((sA κ 3 (aN xb)) - 1)) + (sA κ 2 (aN xc)))) (sA κ 3 (aN xa))) rfl (doR0 (κ := κ) (hd := hd) (th := th) (k := 57) (a := xa) (b := xb) (c := xc) ((if_neg w_44).trans ((if_neg w_48).trans ((if_neg n_4).trans ((if_pos c_52).trans (if_pos n_36)))))).symm (Nat.le_of_ble_eq_true rfl) (Nat.le_of_ble_eq_true rfl) dX7_putIntoRow_233
        · rw [if_neg c_52] at h_49
          subst h_49
          refine lv_if_ne (tgt := 95) hx hb dX7_putIntoRow_90 (by decide) (fun c_ => absurd (by decide) c_) (fun _ => ?_)
          refine lv_iconst (v := 2) hx hb dX7_putIntoRow_93 (by decide) ?_
          exact r_iret hC hr hlk hw κ rfl (doRf (κ := κ) (hd := hd) (th := th) (k := 57) (a := xa) (b := xb) (c := xc) ((if_neg w_44).trans ((if_neg w_48).trans ((if_neg n_4).trans (if_neg c_52)))) (by decide)).symm (Nat.le_of_ble_eq_true rfl) (Nat.le_of_ble_eq_true rfl) dX7_putIntoRow_94
      · rw [if_neg c_43] at h_40
        subst h_40
        have w_64 : pWrong κ (sA κ 3 (aN xb)) 8 := ⟨n_4, c_43⟩
        refine lv_if_ne (tgt := 76) hx hb dX7_putIntoRow_53 (by decide) (fun _ => ?_) (fun c_ => absurd c_ (by decide))
        refine lv_iconst (v := 4) hx hb dX7_putIntoRow_76 (by decide) ?_
        exact r_iret hC hr hlk hw κ rfl (doRf (κ := κ) (hd := hd) (th := th) (k := 57) (a := xa) (b := xb) (c := xc) (if_pos w_64) (by decide)).symm (Nat.le_of_ble_eq_true rfl) (Nat.le_of_ble_eq_true rfl) dX7_putIntoRow_77
    · refine r_topv (y := .ref (ad (100 + 4 * (aN ((sA κ 3 (aN xa)) - 1))))) (by rw [gN_in (by assumption) (by decide)]; show va_rf ((rT (sA κ 3 (aN xa))).map ad) = _; rw [rT1 n_36]; rfl) ?_
      have hB_a := hX.2.1 xa (by assumption) n_36
      have h6_a : (aN ((sA κ 3 (aN xa)) - 1)) < 60 := Nat.lt_of_lt_of_le hB_a.2 hX.1
      have hl_a : (wX q ad κ τ).2.1 (100 + 4 * (aN ((sA κ 3 (aN xa)) - 1))) := thl hB_a.2
      have hc_a : (wX q ad κ τ).2.2 (100 + 4 * (aN ((sA κ 3 (aN xa)) - 1))) = .inr (6, fsT ad κ (aN ((sA κ 3 (aN xa)) - 1))) := thc h6_a
      have hk_a := hX.2.2.1 _ hB_a.2
      refine lv_goto (tgt := 33) hx hb dX7_putIntoRow_29 (by decide) ?_
      refine lv_astore (lv' := [(4, .ref (ad (100 + 4 * (aN ((sA κ 3 (aN xa)) - 1))))), (3, .ref (ad (100 + 4 * (aN ((sA κ 3 (aN xb)) - 1))))), (0, .ref (ad 5)), (1, .ref (ad ρ)), (2, .int 8)]) hx hb dX7_putIntoRow_33 hl (by decide) rfl (fun ls hl => ?_)
      refine lv_aload_n hx hb dX7_putIntoRow_35 rfl (lv_at hl 2 rfl) ?_
      refine r_get hC hw rk7 in_X7_putIntoRow_7 5 (wXl 5 (by decide)) wXc5 0 (by decide) lk_X7_putIntoRow_9 (v := .ref (ad 2)) rfl dX7_putIntoRow_36 ?_
      refine lv_aload_n hx hb dX7_putIntoRow_39 rfl (lv_at hl 3 rfl) ?_
      refine r_get hC hw rk5 in_X7_putIntoRow_5 ρ hst.1 hst.2 3 (by decide) lk_X7_putIntoRow_57 (v := .int xc) rfl dX7_putIntoRow_40 ?_
      refine r_ki hw (r_runV (rest := []) hC hw 2 (c_X3_getWord l _ _ 2 8 xc (wXl 2 (by decide)) wXc2 (wXl 8 (by decide)) wXc8) rk3 (wXl 2 (by decide)) wXc2 1 gX7_putIntoRow_X3_getWord rfl rfl rfl (by decide +kernel) ⟨Nat.le_of_ble_eq_true rfl, Nat.le_of_ble_eq_true rfl⟩ rfl hl.1 rfl (Nat.le_of_ble_eq_true rfl) dX7_putIntoRow_43 ⟨Nat.le_of_ble_eq_true rfl, Nat.le_of_ble_eq_true rfl⟩) (fun r_66 u_67 H locs h_65 hw => ?_)
      subst h_65
      refine r_topv (y := .int (sA κ 2 (aN xc))) (congrArg _ (gN_in (by assumption) (by decide))) ?_
      refine lv_istore (lv' := [(5, .int (sA κ 2 (aN xc))), (4, .ref (ad (100 + 4 * (aN ((sA κ 3 (aN xa)) - 1))))), (3, .ref (ad (100 + 4 * (aN ((sA κ 3 (aN xb)) - 1))))), (0, .ref (ad 5)), (1, .ref (ad ρ)), (2, .int 8)]) hx hb dX7_putIntoRow_46 hl (by decide) rfl (fun ls hl => ?_)
      refine lv_aload_n hx hb dX7_putIntoRow_48 rfl (lv_at hl 2 rfl) ?_
      refine lv_iload_n hx hb dX7_putIntoRow_49 rfl (lv_at hl 5 rfl) ?_
      refine r_ki hw (r_runSN (rest := []) hC hw hw.1.2.1 lks_X7_putIntoRow lkz_X7_putIntoRow_94 (c_X8_misfits_8 l _ _ (100 + 4 * (aN ((sA κ 3 (aN xb)) - 1))) hk_b.1 hl_b hc_b) 2 gX7_putIntoRow_X8_misfits_n94 rfl rfl rfl (by decide +kernel) ⟨Nat.le_of_ble_eq_true rfl, Nat.le_of_ble_eq_true rfl⟩ rfl hl.1 rfl (Nat.le_of_ble_eq_true rfl) dX7_putIntoRow_50 ⟨Nat.le_of_ble_eq_true rfl, Nat.le_of_ble_eq_true rfl⟩) (fun r_69 u_70 H locs h_68 hw => ?_)
      by_cases c_71 : pOf (sA κ 4 (aN ((sA κ 3 (aN xb)) - 1))) 8
      · rw [if_pos c_71] at h_68
        subst h_68
        have w_72 : ¬ pWrong κ (sA κ 3 (aN xb)) 8 := fun h => h.2 c_71
        refine lv_if_ne (tgt := 76) hx hb dX7_putIntoRow_53 (by decide) (fun c_ => absurd (by decide) c_) (fun _ => ?_)
        refine lv_aload hx hb dX7_putIntoRow_56 (lv_at hl 1 rfl) ?_
        refine lv_iload_n hx hb dX7_putIntoRow_58 rfl (lv_at hl 5 rfl) ?_
        refine lv_bipush (v := 10) hx hb dX7_putIntoRow_59 (by decide) ?_
        refine lv_icmp_ne (tgt := 68) hx hb dX7_putIntoRow_61 (by decide) (fun _ => ?_) (fun c_ => absurd c_ (by decide))
        refine lv_bipush (v := 11) hx hb dX7_putIntoRow_68 (by decide) ?_
        refine r_ki hw (r_runSN (rest := []) hC hw hw.1.2.1 lks_X7_putIntoRow lkz_X7_putIntoRow_94 (c_X8_misfits_11 l _ _ (100 + 4 * (aN ((sA κ 3 (aN xa)) - 1))) hk_a.1 hl_a hc_a) 2 gX7_putIntoRow_X8_misfits_n94 rfl rfl rfl (by decide +kernel) ⟨Nat.le_of_ble_eq_true rfl, Nat.le_of_ble_eq_true rfl⟩ rfl hl.1 rfl (Nat.le_of_ble_eq_true rfl) dX7_putIntoRow_70 ⟨Nat.le_of_ble_eq_true rfl, Nat.le_of_ble_eq_true rfl⟩) (fun r_74 u_75 H locs h_73 hw => ?_)
        by_cases c_76 : pOf (sA κ 4 (aN ((sA κ 3 (aN xa)) - 1))) 11
        · rw [if_pos c_76] at h_73
          subst h_73
          have w_77 : ¬ pWrong κ (sA κ 3 (aN xa)) 11 := fun h => h.2 c_76
          refine lv_if_eq (tgt := 78) hx hb dX7_putIntoRow_73 (by decide) (fun _ => ?_) (fun c_ => absurd (by decide) c_)
          refine lv_aload_n hx hb dX7_putIntoRow_78 rfl (lv_at hl 2 rfl) ?_
          refine lv_ifnonnull (tgt := 84) hx hb dX7_putIntoRow_79 (by decide) ?_
          refine lv_aload_n hx hb dX7_putIntoRow_84 rfl (lv_at hl 2 rfl) ?_
          refine lv_iload hx hb dX7_putIntoRow_85 (lv_at hl 0 rfl) ?_
          refine r_ki hw (r_runV (rest := []) hC hw (100 + 4 * (aN ((sA κ 3 (aN xb)) - 1))) (c_X6_hasPlace l _ _ (100 + 4 * (aN ((sA κ 3 (aN xb)) - 1))) (sA κ 2 (aN xc)) hl_b hc_b) rk6 hl_b hc_b 1 gX7_putIntoRow_X6_hasPlace rfl rfl rfl (by decide +kernel) ⟨Nat.le_of_ble_eq_true rfl, Nat.le_of_ble_eq_true rfl⟩ rfl hl.1 rfl (Nat.le_of_ble_eq_true rfl) dX7_putIntoRow_87 ⟨Nat.le_of_ble_eq_true rfl, Nat.le_of_ble_eq_true rfl⟩) (fun r_79 u_80 H locs h_78 hw => ?_)
          rw [hp_eq hk_b.2] at h_78
          by_cases c_81 : pIn (sA κ 2 (aN xc)) 0 ((sA κ 5 (aN ((sA κ 3 (aN xb)) - 1))) - 1)
          · rw [if_pos c_81] at h_78
            subst h_78
            have hix := ixN hB_b.1 c_81 hk_b.2
            refine lv_if_ne (tgt := 95) hx hb dX7_putIntoRow_90 (by decide) (fun _ => ?_) (fun c_ => absurd c_ (by decide))
            refine lv_aload_n hx hb dX7_putIntoRow_95 rfl (lv_at hl 2 rfl) ?_
            refine r_get hC hw rk6 in_X7_putIntoRow_6 (100 + 4 * (aN ((sA κ 3 (aN xb)) - 1))) hl_b hc_b 0 (by decide) lk_X7_putIntoRow_145 (v := .int (sA κ 4 (aN ((sA κ 3 (aN xb)) - 1)))) rfl dX7_putIntoRow_96 ?_
            refine lv_bipush (v := 9) hx hb dX7_putIntoRow_99 (by decide) ?_
            refine lv_icmp_ne (tgt := 116) hx hb dX7_putIntoRow_101 (by decide) (fun c_82 => ?_) (fun c_82 => ?_)
            · refine lv_iload_n hx hb dX7_putIntoRow_116 rfl (lv_at hl 5 rfl) ?_
              refine lv_iconst (v := 4) hx hb dX7_putIntoRow_117 (by decide) ?_
              refine lv_icmp_gt (tgt := 146) hx hb dX7_putIntoRow_118 (by decide) (fun _ => ?_) (fun c_ => absurd (by decide) c_)
              refine lv_iload_n hx hb dX7_putIntoRow_146 rfl (lv_at hl 5 rfl) ?_
              refine lv_iconst (v := 5) hx hb dX7_putIntoRow_147 (by decide) ?_
              refine lv_icmp_ne (tgt := 171) hx hb dX7_putIntoRow_148 (by decide) (fun _ => ?_) (fun c_ => absurd c_ (by decide))
              refine lv_iload_n hx hb dX7_putIntoRow_171 rfl (lv_at hl 5 rfl) ?_
              refine lv_bipush (v := 6) hx hb dX7_putIntoRow_172 (by decide) ?_
              refine lv_icmp_ne (tgt := 198) hx hb dX7_putIntoRow_174 (by decide) (fun _ => ?_) (fun c_ => absurd c_ (by decide))
              refine lv_iload_n hx hb dX7_putIntoRow_198 rfl (lv_at hl 5 rfl) ?_
              refine lv_bipush (v := 7) hx hb dX7_putIntoRow_199 (by decide) ?_
              refine lv_icmp_ne (tgt := 224) hx hb dX7_putIntoRow_201 (by decide) (fun _ => ?_) (fun c_ => absurd c_ (by decide))
              refine lv_aload_n hx hb dX7_putIntoRow_224 rfl (lv_at hl 2 rfl) ?_
              refine lv_iload hx hb dX7_putIntoRow_225 (lv_at hl 0 rfl) ?_
              refine lv_aload hx hb dX7_putIntoRow_227 (lv_at hl 1 rfl) ?_
              have hkd : 8 ≤ sA κ 4 (aN ((sA κ 3 (aN xb)) - 1)) ∧ sA κ 4 (aN ((sA κ 3 (aN xb)) - 1)) ≤ 10 := kd810 c_71
              refine r_kv hw (r_runV (rest := []) hC hw (100 + 4 * (aN ((sA κ 3 (aN xb)) - 1))) (c_X6_setMember (x3 := .null) l _ _ (100 + 4 * (aN ((sA κ 3 (aN xb)) - 1))) (100 + 4 * (aN ((sA κ 3 (aN xa)) - 1))) (103 + 4 * (aN ((sA κ 3 (aN xb)) - 1))) (sA κ 2 (aN xc)) (lnM_in hkd hix.2.2) (lnM_31 hk_b.2) hl_b hc_b hl_a hc_a (thl3 hB_b.2) (thc3 h6_b)) rk6 hl_b hc_b 2 gX7_putIntoRow_X6_setMember rfl rfl rfl (by decide +kernel) ⟨Nat.le_of_ble_eq_true rfl, Nat.le_of_ble_eq_true rfl⟩ rfl hl.1 rfl (Nat.le_of_ble_eq_true rfl) dX7_putIntoRow_229 ⟨Nat.le_of_ble_eq_true rfl, Nat.le_of_ble_eq_true rfl⟩) (fun u_85 H locs h_83 hw => ?_)
              replace hw := xT_mem h6_b hix.2.1 (v := sA κ 3 (aN xa)) (by rw [rT1 n_36]; rfl) hw
              rw [← hix.1] at hw
              refine lv_iconst (v := 0) hx hb dX7_putIntoRow_232 (by decide) ?_
              by_cases c_86 : (sA κ 4 (aN ((sA κ 3 (aN xa)) - 1))) = 11
              · exact r_iret hC hr hlk hw (uA κ 6 (aN ((12 * ((sA κ 3 (aN xb)) - 1)) + (sA κ 2 (aN xc)))) (sA κ 3 (aN xa))) rfl (doR0 (κ := κ) (hd := hd) (th := th) (k := 57) (a := xa) (b := xb) (c := xc) ((if_neg w_72).trans ((if_neg w_77).trans ((if_neg n_4).trans ((if_pos c_81).trans ((if_neg n_36).trans ((if_pos c_86).trans (if_neg c_82)))))))).symm (Nat.le_of_ble_eq_true rfl) (Nat.le_of_ble_eq_true rfl) dX7_putIntoRow_233
              · exact r_iret hC hr hlk hw (uA κ 6 (aN ((12 * ((sA κ 3 (aN xb)) - 1)) + (sA κ 2 (aN xc)))) (sA κ 3 (aN xa))) rfl (doR0 (κ := κ) (hd := hd) (th := th) (k := 57) (a := xa) (b := xb) (c := xc) ((if_neg w_72).trans ((if_neg w_77).trans ((if_neg n_4).trans ((if_pos c_81).trans ((if_neg n_36).trans (if_neg c_86))))))).symm (Nat.le_of_ble_eq_true rfl) (Nat.le_of_ble_eq_true rfl) dX7_putIntoRow_233
            · refine lv_aload hx hb dX7_putIntoRow_104 (lv_at hl 1 rfl) ?_
              refine lv_bipush (v := 12) hx hb dX7_putIntoRow_106 (by decide) ?_
              refine r_ki hw (r_runSN (rest := []) hC hw hw.1.2.1 lks_X7_putIntoRow lkz_X7_putIntoRow_94 (c_X8_misfits_12 l _ _ (100 + 4 * (aN ((sA κ 3 (aN xa)) - 1))) hk_a.1 hl_a hc_a) 2 gX7_putIntoRow_X8_misfits_n94 rfl rfl rfl (by decide +kernel) ⟨Nat.le_of_ble_eq_true rfl, Nat.le_of_ble_eq_true rfl⟩ rfl hl.1 rfl (Nat.le_of_ble_eq_true rfl) dX7_putIntoRow_108 ⟨Nat.le_of_ble_eq_true rfl, Nat.le_of_ble_eq_true rfl⟩) (fun r_88 u_89 H locs h_87 hw => ?_)
              by_cases c_90 : pOf (sA κ 4 (aN ((sA κ 3 (aN xa)) - 1))) 12
              · rw [if_pos c_90] at h_87
                subst h_87
                have w_91 : ¬ pWrong κ (sA κ 3 (aN xa)) 12 := fun h => h.2 c_90
                refine lv_if_eq (tgt := 116) hx hb dX7_putIntoRow_111 (by decide) (fun _ => ?_) (fun c_ => absurd (by decide) c_)
                refine lv_iload_n hx hb dX7_putIntoRow_116 rfl (lv_at hl 5 rfl) ?_
                refine lv_iconst (v := 4) hx hb dX7_putIntoRow_117 (by decide) ?_
                refine lv_icmp_gt (tgt := 146) hx hb dX7_putIntoRow_118 (by decide) (fun _ => ?_) (fun c_ => absurd (by decide) c_)
                refine lv_iload_n hx hb dX7_putIntoRow_146 rfl (lv_at hl 5 rfl) ?_
                refine lv_iconst (v := 5) hx hb dX7_putIntoRow_147 (by decide) ?_
                refine lv_icmp_ne (tgt := 171) hx hb dX7_putIntoRow_148 (by decide) (fun _ => ?_) (fun c_ => absurd c_ (by decide))
                refine lv_iload_n hx hb dX7_putIntoRow_171 rfl (lv_at hl 5 rfl) ?_
                refine lv_bipush (v := 6) hx hb dX7_putIntoRow_172 (by decide) ?_
                refine lv_icmp_ne (tgt := 198) hx hb dX7_putIntoRow_174 (by decide) (fun _ => ?_) (fun c_ => absurd c_ (by decide))
                refine lv_iload_n hx hb dX7_putIntoRow_198 rfl (lv_at hl 5 rfl) ?_
                refine lv_bipush (v := 7) hx hb dX7_putIntoRow_199 (by decide) ?_
                refine lv_icmp_ne (tgt := 224) hx hb dX7_putIntoRow_201 (by decide) (fun _ => ?_) (fun c_ => absurd c_ (by decide))
                refine lv_aload_n hx hb dX7_putIntoRow_224 rfl (lv_at hl 2 rfl) ?_
                refine lv_iload hx hb dX7_putIntoRow_225 (lv_at hl 0 rfl) ?_
                refine lv_aload hx hb dX7_putIntoRow_227 (lv_at hl 1 rfl) ?_
                have hkd : 8 ≤ sA κ 4 (aN ((sA κ 3 (aN xb)) - 1)) ∧ sA κ 4 (aN ((sA κ 3 (aN xb)) - 1)) ≤ 10 := kd810 c_71
                refine r_kv hw (r_runV (rest := []) hC hw (100 + 4 * (aN ((sA κ 3 (aN xb)) - 1))) (c_X6_setMember (x3 := .null) l _ _ (100 + 4 * (aN ((sA κ 3 (aN xb)) - 1))) (100 + 4 * (aN ((sA κ 3 (aN xa)) - 1))) (103 + 4 * (aN ((sA κ 3 (aN xb)) - 1))) (sA κ 2 (aN xc)) (lnM_in hkd hix.2.2) (lnM_31 hk_b.2) hl_b hc_b hl_a hc_a (thl3 hB_b.2) (thc3 h6_b)) rk6 hl_b hc_b 2 gX7_putIntoRow_X6_setMember rfl rfl rfl (by decide +kernel) ⟨Nat.le_of_ble_eq_true rfl, Nat.le_of_ble_eq_true rfl⟩ rfl hl.1 rfl (Nat.le_of_ble_eq_true rfl) dX7_putIntoRow_229 ⟨Nat.le_of_ble_eq_true rfl, Nat.le_of_ble_eq_true rfl⟩) (fun u_94 H locs h_92 hw => ?_)
                replace hw := xT_mem h6_b hix.2.1 (v := sA κ 3 (aN xa)) (by rw [rT1 n_36]; rfl) hw
                rw [← hix.1] at hw
                refine lv_iconst (v := 0) hx hb dX7_putIntoRow_232 (by decide) ?_
                have c_95 : ¬ (sA κ 4 (aN ((sA κ 3 (aN xa)) - 1))) = 11 := fun h => by rw [h] at c_90; exact absurd c_90 (by decide)
                exact r_iret hC hr hlk hw (uA κ 6 (aN ((12 * ((sA κ 3 (aN xb)) - 1)) + (sA κ 2 (aN xc)))) (sA κ 3 (aN xa))) rfl (doR0 (κ := κ) (hd := hd) (th := th) (k := 57) (a := xa) (b := xb) (c := xc) ((if_neg w_72).trans ((if_neg w_77).trans ((if_neg n_4).trans ((if_pos c_81).trans ((if_neg n_36).trans (if_neg c_95))))))).symm (Nat.le_of_ble_eq_true rfl) (Nat.le_of_ble_eq_true rfl) dX7_putIntoRow_233
              · rw [if_neg c_90] at h_87
                subst h_87
                have w_96 : pWrong κ (sA κ 3 (aN xa)) 12 := ⟨n_36, c_90⟩
                refine lv_if_eq (tgt := 116) hx hb dX7_putIntoRow_111 (by decide) (fun c_ => absurd c_ (by decide)) (fun _ => ?_)
                refine lv_iconst (v := 5) hx hb dX7_putIntoRow_114 (by decide) ?_
                have c_97 : (sA κ 4 (aN ((sA κ 3 (aN xa)) - 1))) = 11 := k11 c_76 c_90
                exact r_iret hC hr hlk hw κ rfl (doRf (κ := κ) (hd := hd) (th := th) (k := 57) (a := xa) (b := xb) (c := xc) ((if_neg w_72).trans ((if_neg w_77).trans ((if_neg n_4).trans ((if_pos c_81).trans ((if_neg n_36).trans ((if_pos c_97).trans (if_pos c_82))))))) (by decide)).symm (Nat.le_of_ble_eq_true rfl) (Nat.le_of_ble_eq_true rfl) dX7_putIntoRow_115
          · rw [if_neg c_81] at h_78
            subst h_78
            refine lv_if_ne (tgt := 95) hx hb dX7_putIntoRow_90 (by decide) (fun c_ => absurd (by decide) c_) (fun _ => ?_)
            refine lv_iconst (v := 2) hx hb dX7_putIntoRow_93 (by decide) ?_
            exact r_iret hC hr hlk hw κ rfl (doRf (κ := κ) (hd := hd) (th := th) (k := 57) (a := xa) (b := xb) (c := xc) ((if_neg w_72).trans ((if_neg w_77).trans ((if_neg n_4).trans (if_neg c_81)))) (by decide)).symm (Nat.le_of_ble_eq_true rfl) (Nat.le_of_ble_eq_true rfl) dX7_putIntoRow_94
        · rw [if_neg c_76] at h_73
          subst h_73
          have w_98 : pWrong κ (sA κ 3 (aN xa)) 11 := ⟨n_36, c_76⟩
          refine lv_if_eq (tgt := 78) hx hb dX7_putIntoRow_73 (by decide) (fun c_ => absurd c_ (by decide)) (fun _ => ?_)
          refine lv_iconst (v := 4) hx hb dX7_putIntoRow_76 (by decide) ?_
          exact r_iret hC hr hlk hw κ rfl (doRf (κ := κ) (hd := hd) (th := th) (k := 57) (a := xa) (b := xb) (c := xc) ((if_neg w_72).trans (if_pos w_98)) (by decide)).symm (Nat.le_of_ble_eq_true rfl) (Nat.le_of_ble_eq_true rfl) dX7_putIntoRow_77
      · rw [if_neg c_71] at h_68
        subst h_68
        have w_99 : pWrong κ (sA κ 3 (aN xb)) 8 := ⟨n_4, c_71⟩
        refine lv_if_ne (tgt := 76) hx hb dX7_putIntoRow_53 (by decide) (fun _ => ?_) (fun c_ => absurd c_ (by decide))
        refine lv_iconst (v := 4) hx hb dX7_putIntoRow_76 (by decide) ?_
        exact r_iret hC hr hlk hw κ rfl (doRf (κ := κ) (hd := hd) (th := th) (k := 57) (a := xa) (b := xb) (c := xc) (if_pos w_99) (by decide)).symm (Nat.le_of_ble_eq_true rfl) (Nat.le_of_ble_eq_true rfl) dX7_putIntoRow_77

set_option maxHeartbeats 4000000 in
set_option maxRecDepth 100000 in
theorem c_X7_putIntoRow_58 (l : Launch) {D : va_G} {q : Nat → ClassId} {ad : Nat → Nat} {κ : KS} {τ : TAU} (sz : Nat) (ρ : Nat) (xa xb xc hd th : Int32) (hst : stepAt q ad κ τ ρ 58 xa xb xc) (hs : okStep 58 xa xb xc)(hX : WFx κ) (hN : nnOp κ 58 xa xb xc) : Met l yX7_putIntoRow wsX7_putIntoRow (rmz 2 42) (va_Pc [.ref (ad 5), .ref (ad ρ), .int 10] (rPre D q (wX q ad κ τ) sz)) (va_Qi (fun (r : Int32) (u : KS) => (r, u) = doR κ hd th 58 xa xb xc) (fun (u : KS) tt => rPo D (rA (wX q ad κ τ) sz) (wX q ad u τ) tt) (rA (wX q ad κ τ) sz)) 0 0 (rA (wX q ad κ τ) sz) := by
  have hi0 : vp_in xa 8 := hs.1
  have hi1 : vp_in xb 8 := hs.2.1
  have hi2 : vp_in xc 8 := hs.2.2
  refine r_start (cc := cX7_putIntoRow) (maxL := 6) (ret := (some .int)) (by decide) rfl (Nat.le_of_ble_eq_true rfl) ?_
  intro p e s m below meth c ls hC hr hlk hnm hsz hw hl
  have hx := hC.1
  have hb := hC.2.1
  have hl : lv_has ls 6 [(0, .ref (ad 5)), (1, .ref (ad ρ)), (2, .int 10)] := hl
  refine lv_aload_n hx hb dX7_putIntoRow_0 rfl (lv_at hl 0 rfl) ?_
  refine r_get hC hw rk7 in_X7_putIntoRow_7 5 (wXl 5 (by decide)) wXc5 0 (by decide) lk_X7_putIntoRow_9 (v := .ref (ad 2)) rfl dX7_putIntoRow_1 ?_
  refine lv_aload_n hx hb dX7_putIntoRow_4 rfl (lv_at hl 1 rfl) ?_
  refine r_get hC hw rk5 in_X7_putIntoRow_5 ρ hst.1 hst.2 2 (by decide) lk_X7_putIntoRow_74 (v := .int xb) rfl dX7_putIntoRow_5 ?_
  refine r_kq hw (r_runV (rest := []) hC hw 2 (c_X3_getThing l _ _ 2 12 xb (wXl 2 (by decide)) wXc2 (wXl 12 (by decide)) wXc12) rk3 (wXl 2 (by decide)) wXc2 1 gX7_putIntoRow_X3_getThing rfl rfl rfl (by decide +kernel) ⟨Nat.le_of_ble_eq_true rfl, Nat.le_of_ble_eq_true rfl⟩ rfl hl.1 rfl (Nat.le_of_ble_eq_true rfl) dX7_putIntoRow_8 ⟨Nat.le_of_ble_eq_true rfl, Nat.le_of_ble_eq_true rfl⟩) (fun r_2 u_3 H locs h_1 hw => ?_)
  subst h_1
  by_cases n_4 : (sA κ 3 (aN xb)) = 0
  · refine r_topv (y := .null) (by rw [gN_in (by assumption) (by decide)]; show va_rf ((rT (sA κ 3 (aN xb))).map ad) = _; rw [rT0 n_4]; rfl) ?_
    refine lv_astore_nN (lv' := [(3, .null), (0, .ref (ad 5)), (1, .ref (ad ρ)), (2, .int 10)]) hx hb dX7_putIntoRow_11 rfl hl (by decide) rfl (fun ls hl => ?_)
    refine lv_iload_n hx hb dX7_putIntoRow_12 rfl (lv_at hl 3 rfl) ?_
    refine lv_bipush (v := 8) hx hb dX7_putIntoRow_13 (by decide) ?_
    refine lv_icmp_lt (tgt := 32) hx hb dX7_putIntoRow_15 (by decide) (fun c_ => absurd c_ (by decide)) (fun _ => ?_)
    refine lv_aload_n hx hb dX7_putIntoRow_18 rfl (lv_at hl 1 rfl) ?_
    refine r_get hC hw rk7 in_X7_putIntoRow_7 5 (wXl 5 (by decide)) wXc5 0 (by decide) lk_X7_putIntoRow_9 (v := .ref (ad 2)) rfl dX7_putIntoRow_19 ?_
    refine lv_aload_n hx hb dX7_putIntoRow_22 rfl (lv_at hl 2 rfl) ?_
    refine r_get hC hw rk5 in_X7_putIntoRow_5 ρ hst.1 hst.2 1 (by decide) lk_X7_putIntoRow_69 (v := .int xa) rfl dX7_putIntoRow_23 ?_
    refine r_kq hw (r_runV (rest := []) hC hw 2 (c_X3_getThing l _ _ 2 12 xa (wXl 2 (by decide)) wXc2 (wXl 12 (by decide)) wXc12) rk3 (wXl 2 (by decide)) wXc2 1 gX7_putIntoRow_X3_getThing rfl rfl rfl (by decide +kernel) ⟨Nat.le_of_ble_eq_true rfl, Nat.le_of_ble_eq_true rfl⟩ rfl hl.1 rfl (Nat.le_of_ble_eq_true rfl) dX7_putIntoRow_26 ⟨Nat.le_of_ble_eq_true rfl, Nat.le_of_ble_eq_true rfl⟩) (fun r_6 u_7 H locs h_5 hw => ?_)
    subst h_5
    by_cases n_8 : (sA κ 3 (aN xa)) = 0
    · refine r_topv (y := .null) (by rw [gN_in (by assumption) (by decide)]; show va_rf ((rT (sA κ 3 (aN xa))).map ad) = _; rw [rT0 n_8]; rfl) ?_
      refine lv_goto (tgt := 33) hx hb dX7_putIntoRow_29 (by decide) ?_
      refine lv_astoreN (lv' := [(4, .null), (3, .null), (0, .ref (ad 5)), (1, .ref (ad ρ)), (2, .int 10)]) hx hb dX7_putIntoRow_33 hl (by decide) rfl (fun ls hl => ?_)
      refine lv_aload_n hx hb dX7_putIntoRow_35 rfl (lv_at hl 2 rfl) ?_
      refine r_get hC hw rk7 in_X7_putIntoRow_7 5 (wXl 5 (by decide)) wXc5 0 (by decide) lk_X7_putIntoRow_9 (v := .ref (ad 2)) rfl dX7_putIntoRow_36 ?_
      refine lv_aload_n hx hb dX7_putIntoRow_39 rfl (lv_at hl 3 rfl) ?_
      refine r_get hC hw rk5 in_X7_putIntoRow_5 ρ hst.1 hst.2 3 (by decide) lk_X7_putIntoRow_57 (v := .int xc) rfl dX7_putIntoRow_40 ?_
      refine r_ki hw (r_runV (rest := []) hC hw 2 (c_X3_getWord l _ _ 2 8 xc (wXl 2 (by decide)) wXc2 (wXl 8 (by decide)) wXc8) rk3 (wXl 2 (by decide)) wXc2 1 gX7_putIntoRow_X3_getWord rfl rfl rfl (by decide +kernel) ⟨Nat.le_of_ble_eq_true rfl, Nat.le_of_ble_eq_true rfl⟩ rfl hl.1 rfl (Nat.le_of_ble_eq_true rfl) dX7_putIntoRow_43 ⟨Nat.le_of_ble_eq_true rfl, Nat.le_of_ble_eq_true rfl⟩) (fun r_10 u_11 H locs h_9 hw => ?_)
      subst h_9
      refine r_topv (y := .int (sA κ 2 (aN xc))) (congrArg _ (gN_in (by assumption) (by decide))) ?_
      refine lv_istore (lv' := [(5, .int (sA κ 2 (aN xc))), (4, .null), (3, .null), (0, .ref (ad 5)), (1, .ref (ad ρ)), (2, .int 10)]) hx hb dX7_putIntoRow_46 hl (by decide) rfl (fun ls hl => ?_)
      refine lv_aload_nN hx hb dX7_putIntoRow_48 rfl (lv_at hl 2 rfl) ?_
      refine lv_iload_n hx hb dX7_putIntoRow_49 rfl (lv_at hl 5 rfl) ?_
      refine r_ki hw (r_runSN (rest := []) hC hw hw.1.2.1 lks_X7_putIntoRow lkz_X7_putIntoRow_94 (c_X8_misfitsN_10 l _ _) 2 gX7_putIntoRow_X8_misfits_n94 rfl rfl rfl (by decide +kernel) ⟨Nat.le_of_ble_eq_true rfl, Nat.le_of_ble_eq_true rfl⟩ rfl hl.1 rfl (Nat.le_of_ble_eq_true rfl) dX7_putIntoRow_50 ⟨Nat.le_of_ble_eq_true rfl, Nat.le_of_ble_eq_true rfl⟩) (fun r_13 u_14 H locs h_12 hw => ?_)
      subst h_12
      have w_15 : ¬ pWrong κ (sA κ 3 (aN xb)) 10 := fun h => h.1 n_4
      refine lv_if_ne (tgt := 76) hx hb dX7_putIntoRow_53 (by decide) (fun c_ => absurd (by decide) c_) (fun _ => ?_)
      refine lv_aloadN hx hb dX7_putIntoRow_56 (lv_at hl 1 rfl) ?_
      refine lv_iload_n hx hb dX7_putIntoRow_58 rfl (lv_at hl 5 rfl) ?_
      refine lv_bipush (v := 10) hx hb dX7_putIntoRow_59 (by decide) ?_
      refine lv_icmp_ne (tgt := 68) hx hb dX7_putIntoRow_61 (by decide) (fun c_ => absurd (by decide) c_) (fun _ => ?_)
      refine lv_iconst (v := 4) hx hb dX7_putIntoRow_64 (by decide) ?_
      refine lv_goto (tgt := 70) hx hb dX7_putIntoRow_65 (by decide) ?_
      refine r_ki hw (r_runSN (rest := []) hC hw hw.1.2.1 lks_X7_putIntoRow lkz_X7_putIntoRow_94 (c_X8_misfitsN_4 l _ _) 2 gX7_putIntoRow_X8_misfits_n94 rfl rfl rfl (by decide +kernel) ⟨Nat.le_of_ble_eq_true rfl, Nat.le_of_ble_eq_true rfl⟩ rfl hl.1 rfl (Nat.le_of_ble_eq_true rfl) dX7_putIntoRow_70 ⟨Nat.le_of_ble_eq_true rfl, Nat.le_of_ble_eq_true rfl⟩) (fun r_17 u_18 H locs h_16 hw => ?_)
      subst h_16
      have w_19 : ¬ pWrong κ (sA κ 3 (aN xa)) 4 := fun h => h.1 n_8
      refine lv_if_eq (tgt := 78) hx hb dX7_putIntoRow_73 (by decide) (fun _ => ?_) (fun c_ => absurd (by decide) c_)
      refine lv_aload_nN hx hb dX7_putIntoRow_78 rfl (lv_at hl 2 rfl) ?_
      refine lv_ifnonnullN hx hb dX7_putIntoRow_79 ?_
      refine lv_iconst (v := 1) hx hb dX7_putIntoRow_82 (by decide) ?_
      exact r_iret hC hr hlk hw κ rfl (doRf (κ := κ) (hd := hd) (th := th) (k := 58) (a := xa) (b := xb) (c := xc) ((if_neg w_15).trans ((if_neg w_19).trans (if_pos n_4))) (by decide)).symm (Nat.le_of_ble_eq_true rfl) (Nat.le_of_ble_eq_true rfl) dX7_putIntoRow_83
    · refine r_topv (y := .ref (ad (100 + 4 * (aN ((sA κ 3 (aN xa)) - 1))))) (by rw [gN_in (by assumption) (by decide)]; show va_rf ((rT (sA κ 3 (aN xa))).map ad) = _; rw [rT1 n_8]; rfl) ?_
      have hB_a := hX.2.1 xa (by assumption) n_8
      have h6_a : (aN ((sA κ 3 (aN xa)) - 1)) < 60 := Nat.lt_of_lt_of_le hB_a.2 hX.1
      have hl_a : (wX q ad κ τ).2.1 (100 + 4 * (aN ((sA κ 3 (aN xa)) - 1))) := thl hB_a.2
      have hc_a : (wX q ad κ τ).2.2 (100 + 4 * (aN ((sA κ 3 (aN xa)) - 1))) = .inr (6, fsT ad κ (aN ((sA κ 3 (aN xa)) - 1))) := thc h6_a
      have hk_a := hX.2.2.1 _ hB_a.2
      refine lv_goto (tgt := 33) hx hb dX7_putIntoRow_29 (by decide) ?_
      refine lv_astore (lv' := [(4, .ref (ad (100 + 4 * (aN ((sA κ 3 (aN xa)) - 1))))), (3, .null), (0, .ref (ad 5)), (1, .ref (ad ρ)), (2, .int 10)]) hx hb dX7_putIntoRow_33 hl (by decide) rfl (fun ls hl => ?_)
      refine lv_aload_n hx hb dX7_putIntoRow_35 rfl (lv_at hl 2 rfl) ?_
      refine r_get hC hw rk7 in_X7_putIntoRow_7 5 (wXl 5 (by decide)) wXc5 0 (by decide) lk_X7_putIntoRow_9 (v := .ref (ad 2)) rfl dX7_putIntoRow_36 ?_
      refine lv_aload_n hx hb dX7_putIntoRow_39 rfl (lv_at hl 3 rfl) ?_
      refine r_get hC hw rk5 in_X7_putIntoRow_5 ρ hst.1 hst.2 3 (by decide) lk_X7_putIntoRow_57 (v := .int xc) rfl dX7_putIntoRow_40 ?_
      refine r_ki hw (r_runV (rest := []) hC hw 2 (c_X3_getWord l _ _ 2 8 xc (wXl 2 (by decide)) wXc2 (wXl 8 (by decide)) wXc8) rk3 (wXl 2 (by decide)) wXc2 1 gX7_putIntoRow_X3_getWord rfl rfl rfl (by decide +kernel) ⟨Nat.le_of_ble_eq_true rfl, Nat.le_of_ble_eq_true rfl⟩ rfl hl.1 rfl (Nat.le_of_ble_eq_true rfl) dX7_putIntoRow_43 ⟨Nat.le_of_ble_eq_true rfl, Nat.le_of_ble_eq_true rfl⟩) (fun r_21 u_22 H locs h_20 hw => ?_)
      subst h_20
      refine r_topv (y := .int (sA κ 2 (aN xc))) (congrArg _ (gN_in (by assumption) (by decide))) ?_
      refine lv_istore (lv' := [(5, .int (sA κ 2 (aN xc))), (4, .ref (ad (100 + 4 * (aN ((sA κ 3 (aN xa)) - 1))))), (3, .null), (0, .ref (ad 5)), (1, .ref (ad ρ)), (2, .int 10)]) hx hb dX7_putIntoRow_46 hl (by decide) rfl (fun ls hl => ?_)
      refine lv_aload_nN hx hb dX7_putIntoRow_48 rfl (lv_at hl 2 rfl) ?_
      refine lv_iload_n hx hb dX7_putIntoRow_49 rfl (lv_at hl 5 rfl) ?_
      refine r_ki hw (r_runSN (rest := []) hC hw hw.1.2.1 lks_X7_putIntoRow lkz_X7_putIntoRow_94 (c_X8_misfitsN_10 l _ _) 2 gX7_putIntoRow_X8_misfits_n94 rfl rfl rfl (by decide +kernel) ⟨Nat.le_of_ble_eq_true rfl, Nat.le_of_ble_eq_true rfl⟩ rfl hl.1 rfl (Nat.le_of_ble_eq_true rfl) dX7_putIntoRow_50 ⟨Nat.le_of_ble_eq_true rfl, Nat.le_of_ble_eq_true rfl⟩) (fun r_24 u_25 H locs h_23 hw => ?_)
      subst h_23
      have w_26 : ¬ pWrong κ (sA κ 3 (aN xb)) 10 := fun h => h.1 n_4
      refine lv_if_ne (tgt := 76) hx hb dX7_putIntoRow_53 (by decide) (fun c_ => absurd (by decide) c_) (fun _ => ?_)
      refine lv_aload hx hb dX7_putIntoRow_56 (lv_at hl 1 rfl) ?_
      refine lv_iload_n hx hb dX7_putIntoRow_58 rfl (lv_at hl 5 rfl) ?_
      refine lv_bipush (v := 10) hx hb dX7_putIntoRow_59 (by decide) ?_
      refine lv_icmp_ne (tgt := 68) hx hb dX7_putIntoRow_61 (by decide) (fun c_ => absurd (by decide) c_) (fun _ => ?_)
      refine lv_iconst (v := 4) hx hb dX7_putIntoRow_64 (by decide) ?_
      refine lv_goto (tgt := 70) hx hb dX7_putIntoRow_65 (by decide) ?_
      refine r_ki hw (r_runSN (rest := []) hC hw hw.1.2.1 lks_X7_putIntoRow lkz_X7_putIntoRow_94 (c_X8_misfits_4 l _ _ (100 + 4 * (aN ((sA κ 3 (aN xa)) - 1))) hk_a.1 hl_a hc_a) 2 gX7_putIntoRow_X8_misfits_n94 rfl rfl rfl (by decide +kernel) ⟨Nat.le_of_ble_eq_true rfl, Nat.le_of_ble_eq_true rfl⟩ rfl hl.1 rfl (Nat.le_of_ble_eq_true rfl) dX7_putIntoRow_70 ⟨Nat.le_of_ble_eq_true rfl, Nat.le_of_ble_eq_true rfl⟩) (fun r_28 u_29 H locs h_27 hw => ?_)
      by_cases c_30 : pOf (sA κ 4 (aN ((sA κ 3 (aN xa)) - 1))) 4
      · rw [if_pos c_30] at h_27
        subst h_27
        have w_31 : ¬ pWrong κ (sA κ 3 (aN xa)) 4 := fun h => h.2 c_30
        refine lv_if_eq (tgt := 78) hx hb dX7_putIntoRow_73 (by decide) (fun _ => ?_) (fun c_ => absurd (by decide) c_)
        refine lv_aload_nN hx hb dX7_putIntoRow_78 rfl (lv_at hl 2 rfl) ?_
        refine lv_ifnonnullN hx hb dX7_putIntoRow_79 ?_
        refine lv_iconst (v := 1) hx hb dX7_putIntoRow_82 (by decide) ?_
        exact r_iret hC hr hlk hw κ rfl (doRf (κ := κ) (hd := hd) (th := th) (k := 58) (a := xa) (b := xb) (c := xc) ((if_neg w_26).trans ((if_neg w_31).trans (if_pos n_4))) (by decide)).symm (Nat.le_of_ble_eq_true rfl) (Nat.le_of_ble_eq_true rfl) dX7_putIntoRow_83
      · rw [if_neg c_30] at h_27
        subst h_27
        have w_32 : pWrong κ (sA κ 3 (aN xa)) 4 := ⟨n_8, c_30⟩
        refine lv_if_eq (tgt := 78) hx hb dX7_putIntoRow_73 (by decide) (fun c_ => absurd c_ (by decide)) (fun _ => ?_)
        refine lv_iconst (v := 4) hx hb dX7_putIntoRow_76 (by decide) ?_
        exact r_iret hC hr hlk hw κ rfl (doRf (κ := κ) (hd := hd) (th := th) (k := 58) (a := xa) (b := xb) (c := xc) ((if_neg w_26).trans (if_pos w_32)) (by decide)).symm (Nat.le_of_ble_eq_true rfl) (Nat.le_of_ble_eq_true rfl) dX7_putIntoRow_77
  · refine r_topv (y := .ref (ad (100 + 4 * (aN ((sA κ 3 (aN xb)) - 1))))) (by rw [gN_in (by assumption) (by decide)]; show va_rf ((rT (sA κ 3 (aN xb))).map ad) = _; rw [rT1 n_4]; rfl) ?_
    have hB_b := hX.2.1 xb (by assumption) n_4
    have h6_b : (aN ((sA κ 3 (aN xb)) - 1)) < 60 := Nat.lt_of_lt_of_le hB_b.2 hX.1
    have hl_b : (wX q ad κ τ).2.1 (100 + 4 * (aN ((sA κ 3 (aN xb)) - 1))) := thl hB_b.2
    have hc_b : (wX q ad κ τ).2.2 (100 + 4 * (aN ((sA κ 3 (aN xb)) - 1))) = .inr (6, fsT ad κ (aN ((sA κ 3 (aN xb)) - 1))) := thc h6_b
    have hk_b := hX.2.2.1 _ hB_b.2
    refine lv_astore_n (lv' := [(3, .ref (ad (100 + 4 * (aN ((sA κ 3 (aN xb)) - 1))))), (0, .ref (ad 5)), (1, .ref (ad ρ)), (2, .int 10)]) hx hb dX7_putIntoRow_11 rfl hl (by decide) rfl (fun ls hl => ?_)
    refine lv_iload_n hx hb dX7_putIntoRow_12 rfl (lv_at hl 3 rfl) ?_
    refine lv_bipush (v := 8) hx hb dX7_putIntoRow_13 (by decide) ?_
    refine lv_icmp_lt (tgt := 32) hx hb dX7_putIntoRow_15 (by decide) (fun c_ => absurd c_ (by decide)) (fun _ => ?_)
    refine lv_aload_n hx hb dX7_putIntoRow_18 rfl (lv_at hl 1 rfl) ?_
    refine r_get hC hw rk7 in_X7_putIntoRow_7 5 (wXl 5 (by decide)) wXc5 0 (by decide) lk_X7_putIntoRow_9 (v := .ref (ad 2)) rfl dX7_putIntoRow_19 ?_
    refine lv_aload_n hx hb dX7_putIntoRow_22 rfl (lv_at hl 2 rfl) ?_
    refine r_get hC hw rk5 in_X7_putIntoRow_5 ρ hst.1 hst.2 1 (by decide) lk_X7_putIntoRow_69 (v := .int xa) rfl dX7_putIntoRow_23 ?_
    refine r_kq hw (r_runV (rest := []) hC hw 2 (c_X3_getThing l _ _ 2 12 xa (wXl 2 (by decide)) wXc2 (wXl 12 (by decide)) wXc12) rk3 (wXl 2 (by decide)) wXc2 1 gX7_putIntoRow_X3_getThing rfl rfl rfl (by decide +kernel) ⟨Nat.le_of_ble_eq_true rfl, Nat.le_of_ble_eq_true rfl⟩ rfl hl.1 rfl (Nat.le_of_ble_eq_true rfl) dX7_putIntoRow_26 ⟨Nat.le_of_ble_eq_true rfl, Nat.le_of_ble_eq_true rfl⟩) (fun r_34 u_35 H locs h_33 hw => ?_)
    subst h_33
    by_cases n_36 : (sA κ 3 (aN xa)) = 0
    · refine r_topv (y := .null) (by rw [gN_in (by assumption) (by decide)]; show va_rf ((rT (sA κ 3 (aN xa))).map ad) = _; rw [rT0 n_36]; rfl) ?_
      refine lv_goto (tgt := 33) hx hb dX7_putIntoRow_29 (by decide) ?_
      refine lv_astoreN (lv' := [(4, .null), (3, .ref (ad (100 + 4 * (aN ((sA κ 3 (aN xb)) - 1))))), (0, .ref (ad 5)), (1, .ref (ad ρ)), (2, .int 10)]) hx hb dX7_putIntoRow_33 hl (by decide) rfl (fun ls hl => ?_)
      refine lv_aload_n hx hb dX7_putIntoRow_35 rfl (lv_at hl 2 rfl) ?_
      refine r_get hC hw rk7 in_X7_putIntoRow_7 5 (wXl 5 (by decide)) wXc5 0 (by decide) lk_X7_putIntoRow_9 (v := .ref (ad 2)) rfl dX7_putIntoRow_36 ?_
      refine lv_aload_n hx hb dX7_putIntoRow_39 rfl (lv_at hl 3 rfl) ?_
      refine r_get hC hw rk5 in_X7_putIntoRow_5 ρ hst.1 hst.2 3 (by decide) lk_X7_putIntoRow_57 (v := .int xc) rfl dX7_putIntoRow_40 ?_
      refine r_ki hw (r_runV (rest := []) hC hw 2 (c_X3_getWord l _ _ 2 8 xc (wXl 2 (by decide)) wXc2 (wXl 8 (by decide)) wXc8) rk3 (wXl 2 (by decide)) wXc2 1 gX7_putIntoRow_X3_getWord rfl rfl rfl (by decide +kernel) ⟨Nat.le_of_ble_eq_true rfl, Nat.le_of_ble_eq_true rfl⟩ rfl hl.1 rfl (Nat.le_of_ble_eq_true rfl) dX7_putIntoRow_43 ⟨Nat.le_of_ble_eq_true rfl, Nat.le_of_ble_eq_true rfl⟩) (fun r_38 u_39 H locs h_37 hw => ?_)
      subst h_37
      refine r_topv (y := .int (sA κ 2 (aN xc))) (congrArg _ (gN_in (by assumption) (by decide))) ?_
      refine lv_istore (lv' := [(5, .int (sA κ 2 (aN xc))), (4, .null), (3, .ref (ad (100 + 4 * (aN ((sA κ 3 (aN xb)) - 1))))), (0, .ref (ad 5)), (1, .ref (ad ρ)), (2, .int 10)]) hx hb dX7_putIntoRow_46 hl (by decide) rfl (fun ls hl => ?_)
      refine lv_aload_n hx hb dX7_putIntoRow_48 rfl (lv_at hl 2 rfl) ?_
      refine lv_iload_n hx hb dX7_putIntoRow_49 rfl (lv_at hl 5 rfl) ?_
      refine r_ki hw (r_runSN (rest := []) hC hw hw.1.2.1 lks_X7_putIntoRow lkz_X7_putIntoRow_94 (c_X8_misfits_10 l _ _ (100 + 4 * (aN ((sA κ 3 (aN xb)) - 1))) hk_b.1 hl_b hc_b) 2 gX7_putIntoRow_X8_misfits_n94 rfl rfl rfl (by decide +kernel) ⟨Nat.le_of_ble_eq_true rfl, Nat.le_of_ble_eq_true rfl⟩ rfl hl.1 rfl (Nat.le_of_ble_eq_true rfl) dX7_putIntoRow_50 ⟨Nat.le_of_ble_eq_true rfl, Nat.le_of_ble_eq_true rfl⟩) (fun r_41 u_42 H locs h_40 hw => ?_)
      by_cases c_43 : pOf (sA κ 4 (aN ((sA κ 3 (aN xb)) - 1))) 10
      · rw [if_pos c_43] at h_40
        subst h_40
        have w_44 : ¬ pWrong κ (sA κ 3 (aN xb)) 10 := fun h => h.2 c_43
        refine lv_if_ne (tgt := 76) hx hb dX7_putIntoRow_53 (by decide) (fun c_ => absurd (by decide) c_) (fun _ => ?_)
        refine lv_aloadN hx hb dX7_putIntoRow_56 (lv_at hl 1 rfl) ?_
        refine lv_iload_n hx hb dX7_putIntoRow_58 rfl (lv_at hl 5 rfl) ?_
        refine lv_bipush (v := 10) hx hb dX7_putIntoRow_59 (by decide) ?_
        refine lv_icmp_ne (tgt := 68) hx hb dX7_putIntoRow_61 (by decide) (fun c_ => absurd (by decide) c_) (fun _ => ?_)
        refine lv_iconst (v := 4) hx hb dX7_putIntoRow_64 (by decide) ?_
        refine lv_goto (tgt := 70) hx hb dX7_putIntoRow_65 (by decide) ?_
        refine r_ki hw (r_runSN (rest := []) hC hw hw.1.2.1 lks_X7_putIntoRow lkz_X7_putIntoRow_94 (c_X8_misfitsN_4 l _ _) 2 gX7_putIntoRow_X8_misfits_n94 rfl rfl rfl (by decide +kernel) ⟨Nat.le_of_ble_eq_true rfl, Nat.le_of_ble_eq_true rfl⟩ rfl hl.1 rfl (Nat.le_of_ble_eq_true rfl) dX7_putIntoRow_70 ⟨Nat.le_of_ble_eq_true rfl, Nat.le_of_ble_eq_true rfl⟩) (fun r_46 u_47 H locs h_45 hw => ?_)
        subst h_45
        have w_48 : ¬ pWrong κ (sA κ 3 (aN xa)) 4 := fun h => h.1 n_36
        refine lv_if_eq (tgt := 78) hx hb dX7_putIntoRow_73 (by decide) (fun _ => ?_) (fun c_ => absurd (by decide) c_)
        refine lv_aload_n hx hb dX7_putIntoRow_78 rfl (lv_at hl 2 rfl) ?_
        refine lv_ifnonnull (tgt := 84) hx hb dX7_putIntoRow_79 (by decide) ?_
        refine lv_aload_n hx hb dX7_putIntoRow_84 rfl (lv_at hl 2 rfl) ?_
        refine lv_iload hx hb dX7_putIntoRow_85 (lv_at hl 0 rfl) ?_
        refine r_ki hw (r_runV (rest := []) hC hw (100 + 4 * (aN ((sA κ 3 (aN xb)) - 1))) (c_X6_hasPlace l _ _ (100 + 4 * (aN ((sA κ 3 (aN xb)) - 1))) (sA κ 2 (aN xc)) hl_b hc_b) rk6 hl_b hc_b 1 gX7_putIntoRow_X6_hasPlace rfl rfl rfl (by decide +kernel) ⟨Nat.le_of_ble_eq_true rfl, Nat.le_of_ble_eq_true rfl⟩ rfl hl.1 rfl (Nat.le_of_ble_eq_true rfl) dX7_putIntoRow_87 ⟨Nat.le_of_ble_eq_true rfl, Nat.le_of_ble_eq_true rfl⟩) (fun r_50 u_51 H locs h_49 hw => ?_)
        rw [hp_eq hk_b.2] at h_49
        by_cases c_52 : pIn (sA κ 2 (aN xc)) 0 ((sA κ 5 (aN ((sA κ 3 (aN xb)) - 1))) - 1)
        · rw [if_pos c_52] at h_49
          subst h_49
          have hix := ixN hB_b.1 c_52 hk_b.2
          refine lv_if_ne (tgt := 95) hx hb dX7_putIntoRow_90 (by decide) (fun _ => ?_) (fun c_ => absurd c_ (by decide))
          refine lv_aload_n hx hb dX7_putIntoRow_95 rfl (lv_at hl 2 rfl) ?_
          refine r_get hC hw rk6 in_X7_putIntoRow_6 (100 + 4 * (aN ((sA κ 3 (aN xb)) - 1))) hl_b hc_b 0 (by decide) lk_X7_putIntoRow_145 (v := .int (sA κ 4 (aN ((sA κ 3 (aN xb)) - 1)))) rfl dX7_putIntoRow_96 ?_
          refine lv_bipush (v := 9) hx hb dX7_putIntoRow_99 (by decide) ?_
          refine lv_icmp_ne (tgt := 116) hx hb dX7_putIntoRow_101 (by decide) (fun _ => ?_) (fun c_ => absurd c_ (fun h => by rw [h] at c_43; exact absurd c_43 (by decide)))
          refine lv_iload_n hx hb dX7_putIntoRow_116 rfl (lv_at hl 5 rfl) ?_
          refine lv_iconst (v := 4) hx hb dX7_putIntoRow_117 (by decide) ?_
          refine lv_icmp_gt (tgt := 146) hx hb dX7_putIntoRow_118 (by decide) (fun _ => ?_) (fun c_ => absurd (by decide) c_)
          refine lv_iload_n hx hb dX7_putIntoRow_146 rfl (lv_at hl 5 rfl) ?_
          refine lv_iconst (v := 5) hx hb dX7_putIntoRow_147 (by decide) ?_
          refine lv_icmp_ne (tgt := 171) hx hb dX7_putIntoRow_148 (by decide) (fun _ => ?_) (fun c_ => absurd c_ (by decide))
          refine lv_iload_n hx hb dX7_putIntoRow_171 rfl (lv_at hl 5 rfl) ?_
          refine lv_bipush (v := 6) hx hb dX7_putIntoRow_172 (by decide) ?_
          refine lv_icmp_ne (tgt := 198) hx hb dX7_putIntoRow_174 (by decide) (fun _ => ?_) (fun c_ => absurd c_ (by decide))
          refine lv_iload_n hx hb dX7_putIntoRow_198 rfl (lv_at hl 5 rfl) ?_
          refine lv_bipush (v := 7) hx hb dX7_putIntoRow_199 (by decide) ?_
          refine lv_icmp_ne (tgt := 224) hx hb dX7_putIntoRow_201 (by decide) (fun _ => ?_) (fun c_ => absurd c_ (by decide))
          refine lv_aload_n hx hb dX7_putIntoRow_224 rfl (lv_at hl 2 rfl) ?_
          refine lv_iload hx hb dX7_putIntoRow_225 (lv_at hl 0 rfl) ?_
          refine lv_aloadN hx hb dX7_putIntoRow_227 (lv_at hl 1 rfl) ?_
          have hkd : 8 ≤ sA κ 4 (aN ((sA κ 3 (aN xb)) - 1)) ∧ sA κ 4 (aN ((sA κ 3 (aN xb)) - 1)) ≤ 10 := kd810 c_43
          refine r_kv hw (r_runV (rest := []) hC hw (100 + 4 * (aN ((sA κ 3 (aN xb)) - 1))) (c_X6_setMemberN (x3 := .null) l _ _ (100 + 4 * (aN ((sA κ 3 (aN xb)) - 1))) (103 + 4 * (aN ((sA κ 3 (aN xb)) - 1))) (sA κ 2 (aN xc)) (lnM_in hkd hix.2.2) (lnM_31 hk_b.2) hl_b hc_b (thl3 hB_b.2) (thc3 h6_b)) rk6 hl_b hc_b 2 gX7_putIntoRow_X6_setMember rfl rfl rfl (by decide +kernel) ⟨Nat.le_of_ble_eq_true rfl, Nat.le_of_ble_eq_true rfl⟩ rfl hl.1 rfl (Nat.le_of_ble_eq_true rfl) dX7_putIntoRow_229 ⟨Nat.le_of_ble_eq_true rfl, Nat.le_of_ble_eq_true rfl⟩) (fun u_55 H locs h_53 hw => ?_)
          replace hw := xT_mem h6_b hix.2.1 (v := sA κ 3 (aN xa)) (by rw [rT0 n_36]; rfl) hw
          rw [← hix.1] at hw
          refine lv_iconst (v := 0) hx hb dX7_putIntoRow_232 (by decide) ?_
          exact r_iret hC hr hlk hw (uA κ 6 (aN ((12 * ((sA κ 3 (aN xb)) - 1)) + (sA κ 2 (aN xc)))) (sA κ 3 (aN xa))) rfl (doR0 (κ := κ) (hd := hd) (th := th) (k := 58) (a := xa) (b := xb) (c := xc) ((if_neg w_44).trans ((if_neg w_48).trans ((if_neg n_4).trans (if_pos c_52))))).symm (Nat.le_of_ble_eq_true rfl) (Nat.le_of_ble_eq_true rfl) dX7_putIntoRow_233
        · rw [if_neg c_52] at h_49
          subst h_49
          refine lv_if_ne (tgt := 95) hx hb dX7_putIntoRow_90 (by decide) (fun c_ => absurd (by decide) c_) (fun _ => ?_)
          refine lv_iconst (v := 2) hx hb dX7_putIntoRow_93 (by decide) ?_
          exact r_iret hC hr hlk hw κ rfl (doRf (κ := κ) (hd := hd) (th := th) (k := 58) (a := xa) (b := xb) (c := xc) ((if_neg w_44).trans ((if_neg w_48).trans ((if_neg n_4).trans (if_neg c_52)))) (by decide)).symm (Nat.le_of_ble_eq_true rfl) (Nat.le_of_ble_eq_true rfl) dX7_putIntoRow_94
      · rw [if_neg c_43] at h_40
        subst h_40
        have w_56 : pWrong κ (sA κ 3 (aN xb)) 10 := ⟨n_4, c_43⟩
        refine lv_if_ne (tgt := 76) hx hb dX7_putIntoRow_53 (by decide) (fun _ => ?_) (fun c_ => absurd c_ (by decide))
        refine lv_iconst (v := 4) hx hb dX7_putIntoRow_76 (by decide) ?_
        exact r_iret hC hr hlk hw κ rfl (doRf (κ := κ) (hd := hd) (th := th) (k := 58) (a := xa) (b := xb) (c := xc) (if_pos w_56) (by decide)).symm (Nat.le_of_ble_eq_true rfl) (Nat.le_of_ble_eq_true rfl) dX7_putIntoRow_77
    · refine r_topv (y := .ref (ad (100 + 4 * (aN ((sA κ 3 (aN xa)) - 1))))) (by rw [gN_in (by assumption) (by decide)]; show va_rf ((rT (sA κ 3 (aN xa))).map ad) = _; rw [rT1 n_36]; rfl) ?_
      have hB_a := hX.2.1 xa (by assumption) n_36
      have h6_a : (aN ((sA κ 3 (aN xa)) - 1)) < 60 := Nat.lt_of_lt_of_le hB_a.2 hX.1
      have hl_a : (wX q ad κ τ).2.1 (100 + 4 * (aN ((sA κ 3 (aN xa)) - 1))) := thl hB_a.2
      have hc_a : (wX q ad κ τ).2.2 (100 + 4 * (aN ((sA κ 3 (aN xa)) - 1))) = .inr (6, fsT ad κ (aN ((sA κ 3 (aN xa)) - 1))) := thc h6_a
      have hk_a := hX.2.2.1 _ hB_a.2
      refine lv_goto (tgt := 33) hx hb dX7_putIntoRow_29 (by decide) ?_
      refine lv_astore (lv' := [(4, .ref (ad (100 + 4 * (aN ((sA κ 3 (aN xa)) - 1))))), (3, .ref (ad (100 + 4 * (aN ((sA κ 3 (aN xb)) - 1))))), (0, .ref (ad 5)), (1, .ref (ad ρ)), (2, .int 10)]) hx hb dX7_putIntoRow_33 hl (by decide) rfl (fun ls hl => ?_)
      refine lv_aload_n hx hb dX7_putIntoRow_35 rfl (lv_at hl 2 rfl) ?_
      refine r_get hC hw rk7 in_X7_putIntoRow_7 5 (wXl 5 (by decide)) wXc5 0 (by decide) lk_X7_putIntoRow_9 (v := .ref (ad 2)) rfl dX7_putIntoRow_36 ?_
      refine lv_aload_n hx hb dX7_putIntoRow_39 rfl (lv_at hl 3 rfl) ?_
      refine r_get hC hw rk5 in_X7_putIntoRow_5 ρ hst.1 hst.2 3 (by decide) lk_X7_putIntoRow_57 (v := .int xc) rfl dX7_putIntoRow_40 ?_
      refine r_ki hw (r_runV (rest := []) hC hw 2 (c_X3_getWord l _ _ 2 8 xc (wXl 2 (by decide)) wXc2 (wXl 8 (by decide)) wXc8) rk3 (wXl 2 (by decide)) wXc2 1 gX7_putIntoRow_X3_getWord rfl rfl rfl (by decide +kernel) ⟨Nat.le_of_ble_eq_true rfl, Nat.le_of_ble_eq_true rfl⟩ rfl hl.1 rfl (Nat.le_of_ble_eq_true rfl) dX7_putIntoRow_43 ⟨Nat.le_of_ble_eq_true rfl, Nat.le_of_ble_eq_true rfl⟩) (fun r_58 u_59 H locs h_57 hw => ?_)
      subst h_57
      refine r_topv (y := .int (sA κ 2 (aN xc))) (congrArg _ (gN_in (by assumption) (by decide))) ?_
      refine lv_istore (lv' := [(5, .int (sA κ 2 (aN xc))), (4, .ref (ad (100 + 4 * (aN ((sA κ 3 (aN xa)) - 1))))), (3, .ref (ad (100 + 4 * (aN ((sA κ 3 (aN xb)) - 1))))), (0, .ref (ad 5)), (1, .ref (ad ρ)), (2, .int 10)]) hx hb dX7_putIntoRow_46 hl (by decide) rfl (fun ls hl => ?_)
      refine lv_aload_n hx hb dX7_putIntoRow_48 rfl (lv_at hl 2 rfl) ?_
      refine lv_iload_n hx hb dX7_putIntoRow_49 rfl (lv_at hl 5 rfl) ?_
      refine r_ki hw (r_runSN (rest := []) hC hw hw.1.2.1 lks_X7_putIntoRow lkz_X7_putIntoRow_94 (c_X8_misfits_10 l _ _ (100 + 4 * (aN ((sA κ 3 (aN xb)) - 1))) hk_b.1 hl_b hc_b) 2 gX7_putIntoRow_X8_misfits_n94 rfl rfl rfl (by decide +kernel) ⟨Nat.le_of_ble_eq_true rfl, Nat.le_of_ble_eq_true rfl⟩ rfl hl.1 rfl (Nat.le_of_ble_eq_true rfl) dX7_putIntoRow_50 ⟨Nat.le_of_ble_eq_true rfl, Nat.le_of_ble_eq_true rfl⟩) (fun r_61 u_62 H locs h_60 hw => ?_)
      by_cases c_63 : pOf (sA κ 4 (aN ((sA κ 3 (aN xb)) - 1))) 10
      · rw [if_pos c_63] at h_60
        subst h_60
        have w_64 : ¬ pWrong κ (sA κ 3 (aN xb)) 10 := fun h => h.2 c_63
        refine lv_if_ne (tgt := 76) hx hb dX7_putIntoRow_53 (by decide) (fun c_ => absurd (by decide) c_) (fun _ => ?_)
        refine lv_aload hx hb dX7_putIntoRow_56 (lv_at hl 1 rfl) ?_
        refine lv_iload_n hx hb dX7_putIntoRow_58 rfl (lv_at hl 5 rfl) ?_
        refine lv_bipush (v := 10) hx hb dX7_putIntoRow_59 (by decide) ?_
        refine lv_icmp_ne (tgt := 68) hx hb dX7_putIntoRow_61 (by decide) (fun c_ => absurd (by decide) c_) (fun _ => ?_)
        refine lv_iconst (v := 4) hx hb dX7_putIntoRow_64 (by decide) ?_
        refine lv_goto (tgt := 70) hx hb dX7_putIntoRow_65 (by decide) ?_
        refine r_ki hw (r_runSN (rest := []) hC hw hw.1.2.1 lks_X7_putIntoRow lkz_X7_putIntoRow_94 (c_X8_misfits_4 l _ _ (100 + 4 * (aN ((sA κ 3 (aN xa)) - 1))) hk_a.1 hl_a hc_a) 2 gX7_putIntoRow_X8_misfits_n94 rfl rfl rfl (by decide +kernel) ⟨Nat.le_of_ble_eq_true rfl, Nat.le_of_ble_eq_true rfl⟩ rfl hl.1 rfl (Nat.le_of_ble_eq_true rfl) dX7_putIntoRow_70 ⟨Nat.le_of_ble_eq_true rfl, Nat.le_of_ble_eq_true rfl⟩) (fun r_66 u_67 H locs h_65 hw => ?_)
        by_cases c_68 : pOf (sA κ 4 (aN ((sA κ 3 (aN xa)) - 1))) 4
        · rw [if_pos c_68] at h_65
          subst h_65
          have w_69 : ¬ pWrong κ (sA κ 3 (aN xa)) 4 := fun h => h.2 c_68
          refine lv_if_eq (tgt := 78) hx hb dX7_putIntoRow_73 (by decide) (fun _ => ?_) (fun c_ => absurd (by decide) c_)
          refine lv_aload_n hx hb dX7_putIntoRow_78 rfl (lv_at hl 2 rfl) ?_
          refine lv_ifnonnull (tgt := 84) hx hb dX7_putIntoRow_79 (by decide) ?_
          refine lv_aload_n hx hb dX7_putIntoRow_84 rfl (lv_at hl 2 rfl) ?_
          refine lv_iload hx hb dX7_putIntoRow_85 (lv_at hl 0 rfl) ?_
          refine r_ki hw (r_runV (rest := []) hC hw (100 + 4 * (aN ((sA κ 3 (aN xb)) - 1))) (c_X6_hasPlace l _ _ (100 + 4 * (aN ((sA κ 3 (aN xb)) - 1))) (sA κ 2 (aN xc)) hl_b hc_b) rk6 hl_b hc_b 1 gX7_putIntoRow_X6_hasPlace rfl rfl rfl (by decide +kernel) ⟨Nat.le_of_ble_eq_true rfl, Nat.le_of_ble_eq_true rfl⟩ rfl hl.1 rfl (Nat.le_of_ble_eq_true rfl) dX7_putIntoRow_87 ⟨Nat.le_of_ble_eq_true rfl, Nat.le_of_ble_eq_true rfl⟩) (fun r_71 u_72 H locs h_70 hw => ?_)
          rw [hp_eq hk_b.2] at h_70
          by_cases c_73 : pIn (sA κ 2 (aN xc)) 0 ((sA κ 5 (aN ((sA κ 3 (aN xb)) - 1))) - 1)
          · rw [if_pos c_73] at h_70
            subst h_70
            have hix := ixN hB_b.1 c_73 hk_b.2
            refine lv_if_ne (tgt := 95) hx hb dX7_putIntoRow_90 (by decide) (fun _ => ?_) (fun c_ => absurd c_ (by decide))
            refine lv_aload_n hx hb dX7_putIntoRow_95 rfl (lv_at hl 2 rfl) ?_
            refine r_get hC hw rk6 in_X7_putIntoRow_6 (100 + 4 * (aN ((sA κ 3 (aN xb)) - 1))) hl_b hc_b 0 (by decide) lk_X7_putIntoRow_145 (v := .int (sA κ 4 (aN ((sA κ 3 (aN xb)) - 1)))) rfl dX7_putIntoRow_96 ?_
            refine lv_bipush (v := 9) hx hb dX7_putIntoRow_99 (by decide) ?_
            refine lv_icmp_ne (tgt := 116) hx hb dX7_putIntoRow_101 (by decide) (fun _ => ?_) (fun c_ => absurd c_ (fun h => by rw [h] at c_63; exact absurd c_63 (by decide)))
            refine lv_iload_n hx hb dX7_putIntoRow_116 rfl (lv_at hl 5 rfl) ?_
            refine lv_iconst (v := 4) hx hb dX7_putIntoRow_117 (by decide) ?_
            refine lv_icmp_gt (tgt := 146) hx hb dX7_putIntoRow_118 (by decide) (fun _ => ?_) (fun c_ => absurd (by decide) c_)
            refine lv_iload_n hx hb dX7_putIntoRow_146 rfl (lv_at hl 5 rfl) ?_
            refine lv_iconst (v := 5) hx hb dX7_putIntoRow_147 (by decide) ?_
            refine lv_icmp_ne (tgt := 171) hx hb dX7_putIntoRow_148 (by decide) (fun _ => ?_) (fun c_ => absurd c_ (by decide))
            refine lv_iload_n hx hb dX7_putIntoRow_171 rfl (lv_at hl 5 rfl) ?_
            refine lv_bipush (v := 6) hx hb dX7_putIntoRow_172 (by decide) ?_
            refine lv_icmp_ne (tgt := 198) hx hb dX7_putIntoRow_174 (by decide) (fun _ => ?_) (fun c_ => absurd c_ (by decide))
            refine lv_iload_n hx hb dX7_putIntoRow_198 rfl (lv_at hl 5 rfl) ?_
            refine lv_bipush (v := 7) hx hb dX7_putIntoRow_199 (by decide) ?_
            refine lv_icmp_ne (tgt := 224) hx hb dX7_putIntoRow_201 (by decide) (fun _ => ?_) (fun c_ => absurd c_ (by decide))
            refine lv_aload_n hx hb dX7_putIntoRow_224 rfl (lv_at hl 2 rfl) ?_
            refine lv_iload hx hb dX7_putIntoRow_225 (lv_at hl 0 rfl) ?_
            refine lv_aload hx hb dX7_putIntoRow_227 (lv_at hl 1 rfl) ?_
            have hkd : 8 ≤ sA κ 4 (aN ((sA κ 3 (aN xb)) - 1)) ∧ sA κ 4 (aN ((sA κ 3 (aN xb)) - 1)) ≤ 10 := kd810 c_63
            refine r_kv hw (r_runV (rest := []) hC hw (100 + 4 * (aN ((sA κ 3 (aN xb)) - 1))) (c_X6_setMember (x3 := .null) l _ _ (100 + 4 * (aN ((sA κ 3 (aN xb)) - 1))) (100 + 4 * (aN ((sA κ 3 (aN xa)) - 1))) (103 + 4 * (aN ((sA κ 3 (aN xb)) - 1))) (sA κ 2 (aN xc)) (lnM_in hkd hix.2.2) (lnM_31 hk_b.2) hl_b hc_b hl_a hc_a (thl3 hB_b.2) (thc3 h6_b)) rk6 hl_b hc_b 2 gX7_putIntoRow_X6_setMember rfl rfl rfl (by decide +kernel) ⟨Nat.le_of_ble_eq_true rfl, Nat.le_of_ble_eq_true rfl⟩ rfl hl.1 rfl (Nat.le_of_ble_eq_true rfl) dX7_putIntoRow_229 ⟨Nat.le_of_ble_eq_true rfl, Nat.le_of_ble_eq_true rfl⟩) (fun u_76 H locs h_74 hw => ?_)
            replace hw := xT_mem h6_b hix.2.1 (v := sA κ 3 (aN xa)) (by rw [rT1 n_36]; rfl) hw
            rw [← hix.1] at hw
            refine lv_iconst (v := 0) hx hb dX7_putIntoRow_232 (by decide) ?_
            exact r_iret hC hr hlk hw (uA κ 6 (aN ((12 * ((sA κ 3 (aN xb)) - 1)) + (sA κ 2 (aN xc)))) (sA κ 3 (aN xa))) rfl (doR0 (κ := κ) (hd := hd) (th := th) (k := 58) (a := xa) (b := xb) (c := xc) ((if_neg w_64).trans ((if_neg w_69).trans ((if_neg n_4).trans (if_pos c_73))))).symm (Nat.le_of_ble_eq_true rfl) (Nat.le_of_ble_eq_true rfl) dX7_putIntoRow_233
          · rw [if_neg c_73] at h_70
            subst h_70
            refine lv_if_ne (tgt := 95) hx hb dX7_putIntoRow_90 (by decide) (fun c_ => absurd (by decide) c_) (fun _ => ?_)
            refine lv_iconst (v := 2) hx hb dX7_putIntoRow_93 (by decide) ?_
            exact r_iret hC hr hlk hw κ rfl (doRf (κ := κ) (hd := hd) (th := th) (k := 58) (a := xa) (b := xb) (c := xc) ((if_neg w_64).trans ((if_neg w_69).trans ((if_neg n_4).trans (if_neg c_73)))) (by decide)).symm (Nat.le_of_ble_eq_true rfl) (Nat.le_of_ble_eq_true rfl) dX7_putIntoRow_94
        · rw [if_neg c_68] at h_65
          subst h_65
          have w_77 : pWrong κ (sA κ 3 (aN xa)) 4 := ⟨n_36, c_68⟩
          refine lv_if_eq (tgt := 78) hx hb dX7_putIntoRow_73 (by decide) (fun c_ => absurd c_ (by decide)) (fun _ => ?_)
          refine lv_iconst (v := 4) hx hb dX7_putIntoRow_76 (by decide) ?_
          exact r_iret hC hr hlk hw κ rfl (doRf (κ := κ) (hd := hd) (th := th) (k := 58) (a := xa) (b := xb) (c := xc) ((if_neg w_64).trans (if_pos w_77)) (by decide)).symm (Nat.le_of_ble_eq_true rfl) (Nat.le_of_ble_eq_true rfl) dX7_putIntoRow_77
      · rw [if_neg c_63] at h_60
        subst h_60
        have w_78 : pWrong κ (sA κ 3 (aN xb)) 10 := ⟨n_4, c_63⟩
        refine lv_if_ne (tgt := 76) hx hb dX7_putIntoRow_53 (by decide) (fun _ => ?_) (fun c_ => absurd c_ (by decide))
        refine lv_iconst (v := 4) hx hb dX7_putIntoRow_76 (by decide) ?_
        exact r_iret hC hr hlk hw κ rfl (doRf (κ := κ) (hd := hd) (th := th) (k := 58) (a := xa) (b := xb) (c := xc) (if_pos w_78) (by decide)).symm (Nat.le_of_ble_eq_true rfl) (Nat.le_of_ble_eq_true rfl) dX7_putIntoRow_77

set_option maxHeartbeats 4000000 in
set_option maxRecDepth 100000 in
theorem c_X7_useKnot_59 (l : Launch) {D : va_G} {q : Nat → ClassId} {ad : Nat → Nat} {κ : KS} {τ : TAU} (sz : Nat) (ρ : Nat) (xa xb xc hd th : Int32) (hst : stepAt q ad κ τ ρ 59 xa xb xc) (hs : okStep 59 xa xb xc)(hX : WFx κ) (hN : nnOp κ 59 xa xb xc) : Met l yX7_useKnot wsX7_useKnot (rmz 2 42) (va_Pc [.ref (ad 5), .ref (ad ρ)] (rPre D q (wX q ad κ τ) sz)) (va_Qi (fun (r : Int32) (u : KS) => (r, u) = doR κ hd th 59 xa xb xc) (fun (u : KS) tt => rPo D (rA (wX q ad κ τ) sz) (wX q ad u τ) tt) (rA (wX q ad κ τ) sz)) 0 0 (rA (wX q ad κ τ) sz) := by
  have hi0 : vp_in xa 8 := hs.1
  have hi1 : vp_in xb 8 := hs.2.1
  refine r_start (cc := cX7_useKnot) (maxL := 3) (ret := (some .int)) (by decide) rfl (Nat.le_of_ble_eq_true rfl) ?_
  intro p e s m below meth c ls hC hr hlk hnm hsz hw hl
  have hx := hC.1
  have hb := hC.2.1
  have hl : lv_has ls 3 [(0, .ref (ad 5)), (1, .ref (ad ρ))] := hl
  refine lv_aload_n hx hb dX7_useKnot_0 rfl (lv_at hl 0 rfl) ?_
  refine r_get hC hw rk7 in_X7_useKnot_7 5 (wXl 5 (by decide)) wXc5 0 (by decide) lk_X7_useKnot_9 (v := .ref (ad 2)) rfl dX7_useKnot_1 ?_
  refine lv_aload_n hx hb dX7_useKnot_4 rfl (lv_at hl 1 rfl) ?_
  refine r_get hC hw rk5 in_X7_useKnot_5 ρ hst.1 hst.2 2 (by decide) lk_X7_useKnot_74 (v := .int xb) rfl dX7_useKnot_5 ?_
  refine r_kq hw (r_runV (rest := []) hC hw 2 (c_X3_getThing l _ _ 2 12 xb (wXl 2 (by decide)) wXc2 (wXl 12 (by decide)) wXc12) rk3 (wXl 2 (by decide)) wXc2 1 gX7_useKnot_X3_getThing rfl rfl rfl (by decide +kernel) ⟨Nat.le_of_ble_eq_true rfl, Nat.le_of_ble_eq_true rfl⟩ rfl hl.1 rfl (Nat.le_of_ble_eq_true rfl) dX7_useKnot_8 ⟨Nat.le_of_ble_eq_true rfl, Nat.le_of_ble_eq_true rfl⟩) (fun r_2 u_3 H locs h_1 hw => ?_)
  subst h_1
  by_cases n_4 : (sA κ 3 (aN xb)) = 0
  · refine r_topv (y := .null) (by rw [gN_in (by assumption) (by decide)]; show va_rf ((rT (sA κ 3 (aN xb))).map ad) = _; rw [rT0 n_4]; rfl) ?_
    refine lv_astore_nN (lv' := [(2, .null), (0, .ref (ad 5)), (1, .ref (ad ρ))]) hx hb dX7_useKnot_11 rfl hl (by decide) rfl (fun ls hl => ?_)
    refine lv_aload_nN hx hb dX7_useKnot_12 rfl (lv_at hl 0 rfl) ?_
    refine lv_aload_n hx hb dX7_useKnot_13 rfl (lv_at hl 2 rfl) ?_
    refine r_get hC hw rk5 in_X7_useKnot_5 ρ hst.1 hst.2 0 (by decide) lk_X7_useKnot_15 (v := .int 59) rfl dX7_useKnot_14 ?_
    refine lv_bipush (v := 66) hx hb dX7_useKnot_17 (by decide) ?_
    refine lv_icmp_ne (tgt := 27) hx hb dX7_useKnot_19 (by decide) (fun _ => ?_) (fun c_ => absurd c_ (by decide))
    refine lv_bipush (v := 11) hx hb dX7_useKnot_27 (by decide) ?_
    refine r_ki hw (r_runSN (rest := []) hC hw hw.1.2.1 lks_X7_useKnot lkz_X7_useKnot_94 (c_X8_misfitsN_11 l _ _) 2 gX7_useKnot_X8_misfits_n94 rfl rfl rfl (by decide +kernel) ⟨Nat.le_of_ble_eq_true rfl, Nat.le_of_ble_eq_true rfl⟩ rfl hl.1 rfl (Nat.le_of_ble_eq_true rfl) dX7_useKnot_29 ⟨Nat.le_of_ble_eq_true rfl, Nat.le_of_ble_eq_true rfl⟩) (fun r_6 u_7 H locs h_5 hw => ?_)
    subst h_5
    have w_8 : ¬ pWrong κ (sA κ 3 (aN xb)) 11 := fun h => h.1 n_4
    refine lv_if_eq (tgt := 37) hx hb dX7_useKnot_32 (by decide) (fun _ => ?_) (fun c_ => absurd (by decide) c_)
    refine lv_aload_n hx hb dX7_useKnot_37 rfl (lv_at hl 2 rfl) ?_
    refine r_get hC hw rk5 in_X7_useKnot_5 ρ hst.1 hst.2 0 (by decide) lk_X7_useKnot_15 (v := .int 59) rfl dX7_useKnot_38 ?_
    refine lv_bipush (v := 64) hx hb dX7_useKnot_41 (by decide) ?_
    refine lv_icmp_ne (tgt := 67) hx hb dX7_useKnot_43 (by decide) (fun _ => ?_) (fun c_ => absurd c_ (by decide))
    refine lv_aload_nN hx hb dX7_useKnot_67 rfl (lv_at hl 0 rfl) ?_
    refine lv_ifnonnullN hx hb dX7_useKnot_68 ?_
    refine lv_iconst (v := 1) hx hb dX7_useKnot_71 (by decide) ?_
    exact r_iret hC hr hlk hw κ rfl (doRf (κ := κ) (hd := hd) (th := th) (k := 59) (a := xa) (b := xb) (c := xc) ((if_neg w_8).trans (if_pos n_4)) (by decide)).symm (Nat.le_of_ble_eq_true rfl) (Nat.le_of_ble_eq_true rfl) dX7_useKnot_72
  · refine r_topv (y := .ref (ad (100 + 4 * (aN ((sA κ 3 (aN xb)) - 1))))) (by rw [gN_in (by assumption) (by decide)]; show va_rf ((rT (sA κ 3 (aN xb))).map ad) = _; rw [rT1 n_4]; rfl) ?_
    have hB_b := hX.2.1 xb (by assumption) n_4
    have h6_b : (aN ((sA κ 3 (aN xb)) - 1)) < 60 := Nat.lt_of_lt_of_le hB_b.2 hX.1
    have hl_b : (wX q ad κ τ).2.1 (100 + 4 * (aN ((sA κ 3 (aN xb)) - 1))) := thl hB_b.2
    have hc_b : (wX q ad κ τ).2.2 (100 + 4 * (aN ((sA κ 3 (aN xb)) - 1))) = .inr (6, fsT ad κ (aN ((sA κ 3 (aN xb)) - 1))) := thc h6_b
    have hk_b := hX.2.2.1 _ hB_b.2
    refine lv_astore_n (lv' := [(2, .ref (ad (100 + 4 * (aN ((sA κ 3 (aN xb)) - 1))))), (0, .ref (ad 5)), (1, .ref (ad ρ))]) hx hb dX7_useKnot_11 rfl hl (by decide) rfl (fun ls hl => ?_)
    refine lv_aload_n hx hb dX7_useKnot_12 rfl (lv_at hl 0 rfl) ?_
    refine lv_aload_n hx hb dX7_useKnot_13 rfl (lv_at hl 2 rfl) ?_
    refine r_get hC hw rk5 in_X7_useKnot_5 ρ hst.1 hst.2 0 (by decide) lk_X7_useKnot_15 (v := .int 59) rfl dX7_useKnot_14 ?_
    refine lv_bipush (v := 66) hx hb dX7_useKnot_17 (by decide) ?_
    refine lv_icmp_ne (tgt := 27) hx hb dX7_useKnot_19 (by decide) (fun _ => ?_) (fun c_ => absurd c_ (by decide))
    refine lv_bipush (v := 11) hx hb dX7_useKnot_27 (by decide) ?_
    refine r_ki hw (r_runSN (rest := []) hC hw hw.1.2.1 lks_X7_useKnot lkz_X7_useKnot_94 (c_X8_misfits_11 l _ _ (100 + 4 * (aN ((sA κ 3 (aN xb)) - 1))) hk_b.1 hl_b hc_b) 2 gX7_useKnot_X8_misfits_n94 rfl rfl rfl (by decide +kernel) ⟨Nat.le_of_ble_eq_true rfl, Nat.le_of_ble_eq_true rfl⟩ rfl hl.1 rfl (Nat.le_of_ble_eq_true rfl) dX7_useKnot_29 ⟨Nat.le_of_ble_eq_true rfl, Nat.le_of_ble_eq_true rfl⟩) (fun r_10 u_11 H locs h_9 hw => ?_)
    by_cases c_12 : pOf (sA κ 4 (aN ((sA κ 3 (aN xb)) - 1))) 11
    · rw [if_pos c_12] at h_9
      subst h_9
      have w_13 : ¬ pWrong κ (sA κ 3 (aN xb)) 11 := fun h => h.2 c_12
      refine lv_if_eq (tgt := 37) hx hb dX7_useKnot_32 (by decide) (fun _ => ?_) (fun c_ => absurd (by decide) c_)
      refine lv_aload_n hx hb dX7_useKnot_37 rfl (lv_at hl 2 rfl) ?_
      refine r_get hC hw rk5 in_X7_useKnot_5 ρ hst.1 hst.2 0 (by decide) lk_X7_useKnot_15 (v := .int 59) rfl dX7_useKnot_38 ?_
      refine lv_bipush (v := 64) hx hb dX7_useKnot_41 (by decide) ?_
      refine lv_icmp_ne (tgt := 67) hx hb dX7_useKnot_43 (by decide) (fun _ => ?_) (fun c_ => absurd c_ (by decide))
      refine lv_aload_n hx hb dX7_useKnot_67 rfl (lv_at hl 0 rfl) ?_
      refine lv_ifnonnull (tgt := 73) hx hb dX7_useKnot_68 (by decide) ?_
      refine lv_aload_n hx hb dX7_useKnot_73 rfl (lv_at hl 2 rfl) ?_
      refine r_get hC hw rk5 in_X7_useKnot_5 ρ hst.1 hst.2 0 (by decide) lk_X7_useKnot_15 (v := .int 59) rfl dX7_useKnot_74 ?_
      refine lv_tableIn (tgt := 116) hx hb dX7_useKnot_77 (by decide) (by decide) (by rfl) (by decide) ?_
      refine lv_aload_n hx hb dX7_useKnot_116 rfl (lv_at hl 1 rfl) ?_
      refine r_get hC hw rk7 in_X7_useKnot_7 5 (wXl 5 (by decide)) wXc5 0 (by decide) lk_X7_useKnot_9 (v := .ref (ad 2)) rfl dX7_useKnot_117 ?_
      refine lv_aload_n hx hb dX7_useKnot_120 rfl (lv_at hl 2 rfl) ?_
      refine r_get hC hw rk5 in_X7_useKnot_5 ρ hst.1 hst.2 1 (by decide) lk_X7_useKnot_69 (v := .int xa) rfl dX7_useKnot_121 ?_
      refine lv_aload_n hx hb dX7_useKnot_124 rfl (lv_at hl 0 rfl) ?_
      refine r_get hC hw rk6 in_X7_useKnot_6 (100 + 4 * (aN ((sA κ 3 (aN xb)) - 1))) hl_b hc_b 5 (by decide) lk_X7_useKnot_87 (v := .int (sA κ 7 (aN ((sA κ 3 (aN xb)) - 1)))) rfl dX7_useKnot_125 ?_
      refine r_kv hw (r_runV (rest := []) hC hw 2 (c_X3_setWord l _ _ 2 8 xa (sA κ 7 (aN ((sA κ 3 (aN xb)) - 1))) (by assumption) (wXl 2 (by decide)) wXc2 (wXl 8 (by decide)) wXc8) rk3 (wXl 2 (by decide)) wXc2 2 gX7_useKnot_X3_setWord rfl rfl rfl (by decide +kernel) ⟨Nat.le_of_ble_eq_true rfl, Nat.le_of_ble_eq_true rfl⟩ rfl hl.1 rfl (Nat.le_of_ble_eq_true rfl) dX7_useKnot_128 ⟨Nat.le_of_ble_eq_true rfl, Nat.le_of_ble_eq_true rfl⟩) (fun u_16 H locs h_14 hw => ?_)
      replace hw := xS_words hw
      refine lv_goto (tgt := 250) hx hb dX7_useKnot_131 (by decide) ?_
      refine lv_iconst (v := 0) hx hb dX7_useKnot_250 (by decide) ?_
      exact r_iret hC hr hlk hw (uA κ 2 (aN xa) (sA κ 7 (aN ((sA κ 3 (aN xb)) - 1)))) rfl (doR0 (κ := κ) (hd := hd) (th := th) (k := 59) (a := xa) (b := xb) (c := xc) ((if_neg w_13).trans (if_neg n_4))).symm (Nat.le_of_ble_eq_true rfl) (Nat.le_of_ble_eq_true rfl) dX7_useKnot_251
    · rw [if_neg c_12] at h_9
      subst h_9
      have w_17 : pWrong κ (sA κ 3 (aN xb)) 11 := ⟨n_4, c_12⟩
      refine lv_if_eq (tgt := 37) hx hb dX7_useKnot_32 (by decide) (fun c_ => absurd c_ (by decide)) (fun _ => ?_)
      refine lv_iconst (v := 4) hx hb dX7_useKnot_35 (by decide) ?_
      exact r_iret hC hr hlk hw κ rfl (doRf (κ := κ) (hd := hd) (th := th) (k := 59) (a := xa) (b := xb) (c := xc) (if_pos w_17) (by decide)).symm (Nat.le_of_ble_eq_true rfl) (Nat.le_of_ble_eq_true rfl) dX7_useKnot_36

set_option maxHeartbeats 4000000 in
set_option maxRecDepth 100000 in
theorem c_X7_useKnot_60 (l : Launch) {D : va_G} {q : Nat → ClassId} {ad : Nat → Nat} {κ : KS} {τ : TAU} (sz : Nat) (ρ : Nat) (xa xb xc hd th : Int32) (hst : stepAt q ad κ τ ρ 60 xa xb xc) (hs : okStep 60 xa xb xc)(hX : WFx κ) (hN : nnOp κ 60 xa xb xc) : Met l yX7_useKnot wsX7_useKnot (rmz 2 42) (va_Pc [.ref (ad 5), .ref (ad ρ)] (rPre D q (wX q ad κ τ) sz)) (va_Qi (fun (r : Int32) (u : KS) => (r, u) = doR κ hd th 60 xa xb xc) (fun (u : KS) tt => rPo D (rA (wX q ad κ τ) sz) (wX q ad u τ) tt) (rA (wX q ad κ τ) sz)) 0 0 (rA (wX q ad κ τ) sz) := by
  have hi0 : vp_in xa 8 := hs.1
  have hi1 : vp_in xb 8 := hs.2.1
  refine r_start (cc := cX7_useKnot) (maxL := 3) (ret := (some .int)) (by decide) rfl (Nat.le_of_ble_eq_true rfl) ?_
  intro p e s m below meth c ls hC hr hlk hnm hsz hw hl
  have hx := hC.1
  have hb := hC.2.1
  have hl : lv_has ls 3 [(0, .ref (ad 5)), (1, .ref (ad ρ))] := hl
  refine lv_aload_n hx hb dX7_useKnot_0 rfl (lv_at hl 0 rfl) ?_
  refine r_get hC hw rk7 in_X7_useKnot_7 5 (wXl 5 (by decide)) wXc5 0 (by decide) lk_X7_useKnot_9 (v := .ref (ad 2)) rfl dX7_useKnot_1 ?_
  refine lv_aload_n hx hb dX7_useKnot_4 rfl (lv_at hl 1 rfl) ?_
  refine r_get hC hw rk5 in_X7_useKnot_5 ρ hst.1 hst.2 2 (by decide) lk_X7_useKnot_74 (v := .int xb) rfl dX7_useKnot_5 ?_
  refine r_kq hw (r_runV (rest := []) hC hw 2 (c_X3_getThing l _ _ 2 12 xb (wXl 2 (by decide)) wXc2 (wXl 12 (by decide)) wXc12) rk3 (wXl 2 (by decide)) wXc2 1 gX7_useKnot_X3_getThing rfl rfl rfl (by decide +kernel) ⟨Nat.le_of_ble_eq_true rfl, Nat.le_of_ble_eq_true rfl⟩ rfl hl.1 rfl (Nat.le_of_ble_eq_true rfl) dX7_useKnot_8 ⟨Nat.le_of_ble_eq_true rfl, Nat.le_of_ble_eq_true rfl⟩) (fun r_2 u_3 H locs h_1 hw => ?_)
  subst h_1
  by_cases n_4 : (sA κ 3 (aN xb)) = 0
  · refine r_topv (y := .null) (by rw [gN_in (by assumption) (by decide)]; show va_rf ((rT (sA κ 3 (aN xb))).map ad) = _; rw [rT0 n_4]; rfl) ?_
    refine lv_astore_nN (lv' := [(2, .null), (0, .ref (ad 5)), (1, .ref (ad ρ))]) hx hb dX7_useKnot_11 rfl hl (by decide) rfl (fun ls hl => ?_)
    refine lv_aload_nN hx hb dX7_useKnot_12 rfl (lv_at hl 0 rfl) ?_
    refine lv_aload_n hx hb dX7_useKnot_13 rfl (lv_at hl 2 rfl) ?_
    refine r_get hC hw rk5 in_X7_useKnot_5 ρ hst.1 hst.2 0 (by decide) lk_X7_useKnot_15 (v := .int 60) rfl dX7_useKnot_14 ?_
    refine lv_bipush (v := 66) hx hb dX7_useKnot_17 (by decide) ?_
    refine lv_icmp_ne (tgt := 27) hx hb dX7_useKnot_19 (by decide) (fun _ => ?_) (fun c_ => absurd c_ (by decide))
    refine lv_bipush (v := 11) hx hb dX7_useKnot_27 (by decide) ?_
    refine r_ki hw (r_runSN (rest := []) hC hw hw.1.2.1 lks_X7_useKnot lkz_X7_useKnot_94 (c_X8_misfitsN_11 l _ _) 2 gX7_useKnot_X8_misfits_n94 rfl rfl rfl (by decide +kernel) ⟨Nat.le_of_ble_eq_true rfl, Nat.le_of_ble_eq_true rfl⟩ rfl hl.1 rfl (Nat.le_of_ble_eq_true rfl) dX7_useKnot_29 ⟨Nat.le_of_ble_eq_true rfl, Nat.le_of_ble_eq_true rfl⟩) (fun r_6 u_7 H locs h_5 hw => ?_)
    subst h_5
    have w_8 : ¬ pWrong κ (sA κ 3 (aN xb)) 11 := fun h => h.1 n_4
    refine lv_if_eq (tgt := 37) hx hb dX7_useKnot_32 (by decide) (fun _ => ?_) (fun c_ => absurd (by decide) c_)
    refine lv_aload_n hx hb dX7_useKnot_37 rfl (lv_at hl 2 rfl) ?_
    refine r_get hC hw rk5 in_X7_useKnot_5 ρ hst.1 hst.2 0 (by decide) lk_X7_useKnot_15 (v := .int 60) rfl dX7_useKnot_38 ?_
    refine lv_bipush (v := 64) hx hb dX7_useKnot_41 (by decide) ?_
    refine lv_icmp_ne (tgt := 67) hx hb dX7_useKnot_43 (by decide) (fun _ => ?_) (fun c_ => absurd c_ (by decide))
    refine lv_aload_nN hx hb dX7_useKnot_67 rfl (lv_at hl 0 rfl) ?_
    refine lv_ifnonnullN hx hb dX7_useKnot_68 ?_
    refine lv_iconst (v := 1) hx hb dX7_useKnot_71 (by decide) ?_
    exact r_iret hC hr hlk hw κ rfl (doRf (κ := κ) (hd := hd) (th := th) (k := 60) (a := xa) (b := xb) (c := xc) ((if_neg w_8).trans (if_pos n_4)) (by decide)).symm (Nat.le_of_ble_eq_true rfl) (Nat.le_of_ble_eq_true rfl) dX7_useKnot_72
  · refine r_topv (y := .ref (ad (100 + 4 * (aN ((sA κ 3 (aN xb)) - 1))))) (by rw [gN_in (by assumption) (by decide)]; show va_rf ((rT (sA κ 3 (aN xb))).map ad) = _; rw [rT1 n_4]; rfl) ?_
    have hB_b := hX.2.1 xb (by assumption) n_4
    have h6_b : (aN ((sA κ 3 (aN xb)) - 1)) < 60 := Nat.lt_of_lt_of_le hB_b.2 hX.1
    have hl_b : (wX q ad κ τ).2.1 (100 + 4 * (aN ((sA κ 3 (aN xb)) - 1))) := thl hB_b.2
    have hc_b : (wX q ad κ τ).2.2 (100 + 4 * (aN ((sA κ 3 (aN xb)) - 1))) = .inr (6, fsT ad κ (aN ((sA κ 3 (aN xb)) - 1))) := thc h6_b
    have hk_b := hX.2.2.1 _ hB_b.2
    refine lv_astore_n (lv' := [(2, .ref (ad (100 + 4 * (aN ((sA κ 3 (aN xb)) - 1))))), (0, .ref (ad 5)), (1, .ref (ad ρ))]) hx hb dX7_useKnot_11 rfl hl (by decide) rfl (fun ls hl => ?_)
    refine lv_aload_n hx hb dX7_useKnot_12 rfl (lv_at hl 0 rfl) ?_
    refine lv_aload_n hx hb dX7_useKnot_13 rfl (lv_at hl 2 rfl) ?_
    refine r_get hC hw rk5 in_X7_useKnot_5 ρ hst.1 hst.2 0 (by decide) lk_X7_useKnot_15 (v := .int 60) rfl dX7_useKnot_14 ?_
    refine lv_bipush (v := 66) hx hb dX7_useKnot_17 (by decide) ?_
    refine lv_icmp_ne (tgt := 27) hx hb dX7_useKnot_19 (by decide) (fun _ => ?_) (fun c_ => absurd c_ (by decide))
    refine lv_bipush (v := 11) hx hb dX7_useKnot_27 (by decide) ?_
    refine r_ki hw (r_runSN (rest := []) hC hw hw.1.2.1 lks_X7_useKnot lkz_X7_useKnot_94 (c_X8_misfits_11 l _ _ (100 + 4 * (aN ((sA κ 3 (aN xb)) - 1))) hk_b.1 hl_b hc_b) 2 gX7_useKnot_X8_misfits_n94 rfl rfl rfl (by decide +kernel) ⟨Nat.le_of_ble_eq_true rfl, Nat.le_of_ble_eq_true rfl⟩ rfl hl.1 rfl (Nat.le_of_ble_eq_true rfl) dX7_useKnot_29 ⟨Nat.le_of_ble_eq_true rfl, Nat.le_of_ble_eq_true rfl⟩) (fun r_10 u_11 H locs h_9 hw => ?_)
    by_cases c_12 : pOf (sA κ 4 (aN ((sA κ 3 (aN xb)) - 1))) 11
    · rw [if_pos c_12] at h_9
      subst h_9
      have w_13 : ¬ pWrong κ (sA κ 3 (aN xb)) 11 := fun h => h.2 c_12
      refine lv_if_eq (tgt := 37) hx hb dX7_useKnot_32 (by decide) (fun _ => ?_) (fun c_ => absurd (by decide) c_)
      refine lv_aload_n hx hb dX7_useKnot_37 rfl (lv_at hl 2 rfl) ?_
      refine r_get hC hw rk5 in_X7_useKnot_5 ρ hst.1 hst.2 0 (by decide) lk_X7_useKnot_15 (v := .int 60) rfl dX7_useKnot_38 ?_
      refine lv_bipush (v := 64) hx hb dX7_useKnot_41 (by decide) ?_
      refine lv_icmp_ne (tgt := 67) hx hb dX7_useKnot_43 (by decide) (fun _ => ?_) (fun c_ => absurd c_ (by decide))
      refine lv_aload_n hx hb dX7_useKnot_67 rfl (lv_at hl 0 rfl) ?_
      refine lv_ifnonnull (tgt := 73) hx hb dX7_useKnot_68 (by decide) ?_
      refine lv_aload_n hx hb dX7_useKnot_73 rfl (lv_at hl 2 rfl) ?_
      refine r_get hC hw rk5 in_X7_useKnot_5 ρ hst.1 hst.2 0 (by decide) lk_X7_useKnot_15 (v := .int 60) rfl dX7_useKnot_74 ?_
      refine lv_tableIn (tgt := 134) hx hb dX7_useKnot_77 (by decide) (by decide) (by rfl) (by decide) ?_
      refine lv_aload_n hx hb dX7_useKnot_134 rfl (lv_at hl 0 rfl) ?_
      refine lv_aload_n hx hb dX7_useKnot_135 rfl (lv_at hl 1 rfl) ?_
      refine r_get hC hw rk7 in_X7_useKnot_7 5 (wXl 5 (by decide)) wXc5 0 (by decide) lk_X7_useKnot_9 (v := .ref (ad 2)) rfl dX7_useKnot_136 ?_
      refine lv_aload_n hx hb dX7_useKnot_139 rfl (lv_at hl 2 rfl) ?_
      refine r_get hC hw rk5 in_X7_useKnot_5 ρ hst.1 hst.2 1 (by decide) lk_X7_useKnot_69 (v := .int xa) rfl dX7_useKnot_140 ?_
      refine r_ki hw (r_runV (rest := [.ref (ad (100 + 4 * (aN ((sA κ 3 (aN xb)) - 1))))]) hC hw 2 (c_X3_getWord l _ _ 2 8 xa (wXl 2 (by decide)) wXc2 (wXl 8 (by decide)) wXc8) rk3 (wXl 2 (by decide)) wXc2 1 gX7_useKnot_X3_getWord rfl rfl rfl (by decide +kernel) ⟨Nat.le_of_ble_eq_true rfl, Nat.le_of_ble_eq_true rfl⟩ rfl hl.1 rfl (Nat.le_of_ble_eq_true rfl) dX7_useKnot_143 ⟨Nat.le_of_ble_eq_true rfl, Nat.le_of_ble_eq_true rfl⟩) (fun r_15 u_16 H locs h_14 hw => ?_)
      subst h_14
      refine r_topv (y := .int (sA κ 2 (aN xa))) (congrArg _ (gN_in (by assumption) (by decide))) ?_
      refine r_put hC hw rk6 in_X7_useKnot_6 (100 + 4 * (aN ((sA κ 3 (aN xb)) - 1))) hl_b hc_b 5 (by decide) lk_X7_useKnot_87 rfl rfl rfl (Nat.le_of_ble_eq_true rfl) dX7_useKnot_146 (fun H locs hw => ?_)
      replace hw := xT_tag h6_b hw
      refine lv_goto (tgt := 250) hx hb dX7_useKnot_149 (by decide) ?_
      refine lv_iconst (v := 0) hx hb dX7_useKnot_250 (by decide) ?_
      exact r_iret hC hr hlk hw (uA κ 7 (aN ((sA κ 3 (aN xb)) - 1)) (sA κ 2 (aN xa))) rfl (doR0 (κ := κ) (hd := hd) (th := th) (k := 60) (a := xa) (b := xb) (c := xc) ((if_neg w_13).trans (if_neg n_4))).symm (Nat.le_of_ble_eq_true rfl) (Nat.le_of_ble_eq_true rfl) dX7_useKnot_251
    · rw [if_neg c_12] at h_9
      subst h_9
      have w_17 : pWrong κ (sA κ 3 (aN xb)) 11 := ⟨n_4, c_12⟩
      refine lv_if_eq (tgt := 37) hx hb dX7_useKnot_32 (by decide) (fun c_ => absurd c_ (by decide)) (fun _ => ?_)
      refine lv_iconst (v := 4) hx hb dX7_useKnot_35 (by decide) ?_
      exact r_iret hC hr hlk hw κ rfl (doRf (κ := κ) (hd := hd) (th := th) (k := 60) (a := xa) (b := xb) (c := xc) (if_pos w_17) (by decide)).symm (Nat.le_of_ble_eq_true rfl) (Nat.le_of_ble_eq_true rfl) dX7_useKnot_36

set_option maxHeartbeats 4000000 in
set_option maxRecDepth 100000 in
theorem c_X7_useKnot_61 (l : Launch) {D : va_G} {q : Nat → ClassId} {ad : Nat → Nat} {κ : KS} {τ : TAU} (sz : Nat) (ρ : Nat) (xa xb xc hd th : Int32) (hst : stepAt q ad κ τ ρ 61 xa xb xc) (hs : okStep 61 xa xb xc)(hX : WFx κ) (hN : nnOp κ 61 xa xb xc) : Met l yX7_useKnot wsX7_useKnot (rmz 2 42) (va_Pc [.ref (ad 5), .ref (ad ρ)] (rPre D q (wX q ad κ τ) sz)) (va_Qi (fun (r : Int32) (u : KS) => (r, u) = doR κ hd th 61 xa xb xc) (fun (u : KS) tt => rPo D (rA (wX q ad κ τ) sz) (wX q ad u τ) tt) (rA (wX q ad κ τ) sz)) 0 0 (rA (wX q ad κ τ) sz) := by
  have hi0 : vp_in xa 4 := hs.1
  have hi1 : vp_in xb 8 := hs.2.1
  refine r_start (cc := cX7_useKnot) (maxL := 3) (ret := (some .int)) (by decide) rfl (Nat.le_of_ble_eq_true rfl) ?_
  intro p e s m below meth c ls hC hr hlk hnm hsz hw hl
  have hx := hC.1
  have hb := hC.2.1
  have hl : lv_has ls 3 [(0, .ref (ad 5)), (1, .ref (ad ρ))] := hl
  refine lv_aload_n hx hb dX7_useKnot_0 rfl (lv_at hl 0 rfl) ?_
  refine r_get hC hw rk7 in_X7_useKnot_7 5 (wXl 5 (by decide)) wXc5 0 (by decide) lk_X7_useKnot_9 (v := .ref (ad 2)) rfl dX7_useKnot_1 ?_
  refine lv_aload_n hx hb dX7_useKnot_4 rfl (lv_at hl 1 rfl) ?_
  refine r_get hC hw rk5 in_X7_useKnot_5 ρ hst.1 hst.2 2 (by decide) lk_X7_useKnot_74 (v := .int xb) rfl dX7_useKnot_5 ?_
  refine r_kq hw (r_runV (rest := []) hC hw 2 (c_X3_getThing l _ _ 2 12 xb (wXl 2 (by decide)) wXc2 (wXl 12 (by decide)) wXc12) rk3 (wXl 2 (by decide)) wXc2 1 gX7_useKnot_X3_getThing rfl rfl rfl (by decide +kernel) ⟨Nat.le_of_ble_eq_true rfl, Nat.le_of_ble_eq_true rfl⟩ rfl hl.1 rfl (Nat.le_of_ble_eq_true rfl) dX7_useKnot_8 ⟨Nat.le_of_ble_eq_true rfl, Nat.le_of_ble_eq_true rfl⟩) (fun r_2 u_3 H locs h_1 hw => ?_)
  subst h_1
  by_cases n_4 : (sA κ 3 (aN xb)) = 0
  · refine r_topv (y := .null) (by rw [gN_in (by assumption) (by decide)]; show va_rf ((rT (sA κ 3 (aN xb))).map ad) = _; rw [rT0 n_4]; rfl) ?_
    refine lv_astore_nN (lv' := [(2, .null), (0, .ref (ad 5)), (1, .ref (ad ρ))]) hx hb dX7_useKnot_11 rfl hl (by decide) rfl (fun ls hl => ?_)
    refine lv_aload_nN hx hb dX7_useKnot_12 rfl (lv_at hl 0 rfl) ?_
    refine lv_aload_n hx hb dX7_useKnot_13 rfl (lv_at hl 2 rfl) ?_
    refine r_get hC hw rk5 in_X7_useKnot_5 ρ hst.1 hst.2 0 (by decide) lk_X7_useKnot_15 (v := .int 61) rfl dX7_useKnot_14 ?_
    refine lv_bipush (v := 66) hx hb dX7_useKnot_17 (by decide) ?_
    refine lv_icmp_ne (tgt := 27) hx hb dX7_useKnot_19 (by decide) (fun _ => ?_) (fun c_ => absurd c_ (by decide))
    refine lv_bipush (v := 11) hx hb dX7_useKnot_27 (by decide) ?_
    refine r_ki hw (r_runSN (rest := []) hC hw hw.1.2.1 lks_X7_useKnot lkz_X7_useKnot_94 (c_X8_misfitsN_11 l _ _) 2 gX7_useKnot_X8_misfits_n94 rfl rfl rfl (by decide +kernel) ⟨Nat.le_of_ble_eq_true rfl, Nat.le_of_ble_eq_true rfl⟩ rfl hl.1 rfl (Nat.le_of_ble_eq_true rfl) dX7_useKnot_29 ⟨Nat.le_of_ble_eq_true rfl, Nat.le_of_ble_eq_true rfl⟩) (fun r_6 u_7 H locs h_5 hw => ?_)
    subst h_5
    have w_8 : ¬ pWrong κ (sA κ 3 (aN xb)) 11 := fun h => h.1 n_4
    refine lv_if_eq (tgt := 37) hx hb dX7_useKnot_32 (by decide) (fun _ => ?_) (fun c_ => absurd (by decide) c_)
    refine lv_aload_n hx hb dX7_useKnot_37 rfl (lv_at hl 2 rfl) ?_
    refine r_get hC hw rk5 in_X7_useKnot_5 ρ hst.1 hst.2 0 (by decide) lk_X7_useKnot_15 (v := .int 61) rfl dX7_useKnot_38 ?_
    refine lv_bipush (v := 64) hx hb dX7_useKnot_41 (by decide) ?_
    refine lv_icmp_ne (tgt := 67) hx hb dX7_useKnot_43 (by decide) (fun _ => ?_) (fun c_ => absurd c_ (by decide))
    refine lv_aload_nN hx hb dX7_useKnot_67 rfl (lv_at hl 0 rfl) ?_
    refine lv_ifnonnullN hx hb dX7_useKnot_68 ?_
    refine lv_iconst (v := 1) hx hb dX7_useKnot_71 (by decide) ?_
    exact r_iret hC hr hlk hw κ rfl (doRf (κ := κ) (hd := hd) (th := th) (k := 61) (a := xa) (b := xb) (c := xc) ((if_neg w_8).trans (if_pos n_4)) (by decide)).symm (Nat.le_of_ble_eq_true rfl) (Nat.le_of_ble_eq_true rfl) dX7_useKnot_72
  · refine r_topv (y := .ref (ad (100 + 4 * (aN ((sA κ 3 (aN xb)) - 1))))) (by rw [gN_in (by assumption) (by decide)]; show va_rf ((rT (sA κ 3 (aN xb))).map ad) = _; rw [rT1 n_4]; rfl) ?_
    have hB_b := hX.2.1 xb (by assumption) n_4
    have h6_b : (aN ((sA κ 3 (aN xb)) - 1)) < 60 := Nat.lt_of_lt_of_le hB_b.2 hX.1
    have hl_b : (wX q ad κ τ).2.1 (100 + 4 * (aN ((sA κ 3 (aN xb)) - 1))) := thl hB_b.2
    have hc_b : (wX q ad κ τ).2.2 (100 + 4 * (aN ((sA κ 3 (aN xb)) - 1))) = .inr (6, fsT ad κ (aN ((sA κ 3 (aN xb)) - 1))) := thc h6_b
    have hk_b := hX.2.2.1 _ hB_b.2
    refine lv_astore_n (lv' := [(2, .ref (ad (100 + 4 * (aN ((sA κ 3 (aN xb)) - 1))))), (0, .ref (ad 5)), (1, .ref (ad ρ))]) hx hb dX7_useKnot_11 rfl hl (by decide) rfl (fun ls hl => ?_)
    refine lv_aload_n hx hb dX7_useKnot_12 rfl (lv_at hl 0 rfl) ?_
    refine lv_aload_n hx hb dX7_useKnot_13 rfl (lv_at hl 2 rfl) ?_
    refine r_get hC hw rk5 in_X7_useKnot_5 ρ hst.1 hst.2 0 (by decide) lk_X7_useKnot_15 (v := .int 61) rfl dX7_useKnot_14 ?_
    refine lv_bipush (v := 66) hx hb dX7_useKnot_17 (by decide) ?_
    refine lv_icmp_ne (tgt := 27) hx hb dX7_useKnot_19 (by decide) (fun _ => ?_) (fun c_ => absurd c_ (by decide))
    refine lv_bipush (v := 11) hx hb dX7_useKnot_27 (by decide) ?_
    refine r_ki hw (r_runSN (rest := []) hC hw hw.1.2.1 lks_X7_useKnot lkz_X7_useKnot_94 (c_X8_misfits_11 l _ _ (100 + 4 * (aN ((sA κ 3 (aN xb)) - 1))) hk_b.1 hl_b hc_b) 2 gX7_useKnot_X8_misfits_n94 rfl rfl rfl (by decide +kernel) ⟨Nat.le_of_ble_eq_true rfl, Nat.le_of_ble_eq_true rfl⟩ rfl hl.1 rfl (Nat.le_of_ble_eq_true rfl) dX7_useKnot_29 ⟨Nat.le_of_ble_eq_true rfl, Nat.le_of_ble_eq_true rfl⟩) (fun r_10 u_11 H locs h_9 hw => ?_)
    by_cases c_12 : pOf (sA κ 4 (aN ((sA κ 3 (aN xb)) - 1))) 11
    · rw [if_pos c_12] at h_9
      subst h_9
      have w_13 : ¬ pWrong κ (sA κ 3 (aN xb)) 11 := fun h => h.2 c_12
      refine lv_if_eq (tgt := 37) hx hb dX7_useKnot_32 (by decide) (fun _ => ?_) (fun c_ => absurd (by decide) c_)
      refine lv_aload_n hx hb dX7_useKnot_37 rfl (lv_at hl 2 rfl) ?_
      refine r_get hC hw rk5 in_X7_useKnot_5 ρ hst.1 hst.2 0 (by decide) lk_X7_useKnot_15 (v := .int 61) rfl dX7_useKnot_38 ?_
      refine lv_bipush (v := 64) hx hb dX7_useKnot_41 (by decide) ?_
      refine lv_icmp_ne (tgt := 67) hx hb dX7_useKnot_43 (by decide) (fun _ => ?_) (fun c_ => absurd c_ (by decide))
      refine lv_aload_n hx hb dX7_useKnot_67 rfl (lv_at hl 0 rfl) ?_
      refine lv_ifnonnull (tgt := 73) hx hb dX7_useKnot_68 (by decide) ?_
      refine lv_aload_n hx hb dX7_useKnot_73 rfl (lv_at hl 2 rfl) ?_
      refine r_get hC hw rk5 in_X7_useKnot_5 ρ hst.1 hst.2 0 (by decide) lk_X7_useKnot_15 (v := .int 61) rfl dX7_useKnot_74 ?_
      refine lv_tableIn (tgt := 152) hx hb dX7_useKnot_77 (by decide) (by decide) (by rfl) (by decide) ?_
      refine lv_aload_n hx hb dX7_useKnot_152 rfl (lv_at hl 1 rfl) ?_
      refine r_get hC hw rk7 in_X7_useKnot_7 5 (wXl 5 (by decide)) wXc5 0 (by decide) lk_X7_useKnot_9 (v := .ref (ad 2)) rfl dX7_useKnot_153 ?_
      refine lv_aload_n hx hb dX7_useKnot_156 rfl (lv_at hl 2 rfl) ?_
      refine r_get hC hw rk5 in_X7_useKnot_5 ρ hst.1 hst.2 1 (by decide) lk_X7_useKnot_69 (v := .int xa) rfl dX7_useKnot_157 ?_
      refine lv_aload_n hx hb dX7_useKnot_160 rfl (lv_at hl 0 rfl) ?_
      refine r_get hC hw rk6 in_X7_useKnot_6 (100 + 4 * (aN ((sA κ 3 (aN xb)) - 1))) hl_b hc_b 6 (by decide) lk_X7_useKnot_168 (v := .long (sJ κ 2 (aN ((sA κ 3 (aN xb)) - 1)))) rfl dX7_useKnot_161 ?_
      refine r_kv hw (r_runV (rest := []) hC hw 2 (c_X3_setLong l _ _ 2 9 xa (sJ κ 2 (aN ((sA κ 3 (aN xb)) - 1))) (by assumption) (wXl 2 (by decide)) wXc2 (wXl 9 (by decide)) wXc9) rk3 (wXl 2 (by decide)) wXc2 2 gX7_useKnot_X3_setLong rfl rfl rfl (by decide +kernel) ⟨Nat.le_of_ble_eq_true rfl, Nat.le_of_ble_eq_true rfl⟩ rfl hl.1 rfl (Nat.le_of_ble_eq_true rfl) dX7_useKnot_164 ⟨Nat.le_of_ble_eq_true rfl, Nat.le_of_ble_eq_true rfl⟩) (fun u_16 H locs h_14 hw => ?_)
      replace hw := xS_longs hw
      refine lv_goto (tgt := 250) hx hb dX7_useKnot_167 (by decide) ?_
      refine lv_iconst (v := 0) hx hb dX7_useKnot_250 (by decide) ?_
      exact r_iret hC hr hlk hw (uJ κ 0 (aN xa) (sJ κ 2 (aN ((sA κ 3 (aN xb)) - 1)))) rfl (doR0 (κ := κ) (hd := hd) (th := th) (k := 61) (a := xa) (b := xb) (c := xc) ((if_neg w_13).trans (if_neg n_4))).symm (Nat.le_of_ble_eq_true rfl) (Nat.le_of_ble_eq_true rfl) dX7_useKnot_251
    · rw [if_neg c_12] at h_9
      subst h_9
      have w_17 : pWrong κ (sA κ 3 (aN xb)) 11 := ⟨n_4, c_12⟩
      refine lv_if_eq (tgt := 37) hx hb dX7_useKnot_32 (by decide) (fun c_ => absurd c_ (by decide)) (fun _ => ?_)
      refine lv_iconst (v := 4) hx hb dX7_useKnot_35 (by decide) ?_
      exact r_iret hC hr hlk hw κ rfl (doRf (κ := κ) (hd := hd) (th := th) (k := 61) (a := xa) (b := xb) (c := xc) (if_pos w_17) (by decide)).symm (Nat.le_of_ble_eq_true rfl) (Nat.le_of_ble_eq_true rfl) dX7_useKnot_36

set_option maxHeartbeats 4000000 in
set_option maxRecDepth 100000 in
theorem c_X7_useKnot_62 (l : Launch) {D : va_G} {q : Nat → ClassId} {ad : Nat → Nat} {κ : KS} {τ : TAU} (sz : Nat) (ρ : Nat) (xa xb xc hd th : Int32) (hst : stepAt q ad κ τ ρ 62 xa xb xc) (hs : okStep 62 xa xb xc)(hX : WFx κ) (hN : nnOp κ 62 xa xb xc) : Met l yX7_useKnot wsX7_useKnot (rmz 2 42) (va_Pc [.ref (ad 5), .ref (ad ρ)] (rPre D q (wX q ad κ τ) sz)) (va_Qi (fun (r : Int32) (u : KS) => (r, u) = doR κ hd th 62 xa xb xc) (fun (u : KS) tt => rPo D (rA (wX q ad κ τ) sz) (wX q ad u τ) tt) (rA (wX q ad κ τ) sz)) 0 0 (rA (wX q ad κ τ) sz) := by
  have hi0 : vp_in xa 4 := hs.1
  have hi1 : vp_in xb 8 := hs.2.1
  refine r_start (cc := cX7_useKnot) (maxL := 3) (ret := (some .int)) (by decide) rfl (Nat.le_of_ble_eq_true rfl) ?_
  intro p e s m below meth c ls hC hr hlk hnm hsz hw hl
  have hx := hC.1
  have hb := hC.2.1
  have hl : lv_has ls 3 [(0, .ref (ad 5)), (1, .ref (ad ρ))] := hl
  refine lv_aload_n hx hb dX7_useKnot_0 rfl (lv_at hl 0 rfl) ?_
  refine r_get hC hw rk7 in_X7_useKnot_7 5 (wXl 5 (by decide)) wXc5 0 (by decide) lk_X7_useKnot_9 (v := .ref (ad 2)) rfl dX7_useKnot_1 ?_
  refine lv_aload_n hx hb dX7_useKnot_4 rfl (lv_at hl 1 rfl) ?_
  refine r_get hC hw rk5 in_X7_useKnot_5 ρ hst.1 hst.2 2 (by decide) lk_X7_useKnot_74 (v := .int xb) rfl dX7_useKnot_5 ?_
  refine r_kq hw (r_runV (rest := []) hC hw 2 (c_X3_getThing l _ _ 2 12 xb (wXl 2 (by decide)) wXc2 (wXl 12 (by decide)) wXc12) rk3 (wXl 2 (by decide)) wXc2 1 gX7_useKnot_X3_getThing rfl rfl rfl (by decide +kernel) ⟨Nat.le_of_ble_eq_true rfl, Nat.le_of_ble_eq_true rfl⟩ rfl hl.1 rfl (Nat.le_of_ble_eq_true rfl) dX7_useKnot_8 ⟨Nat.le_of_ble_eq_true rfl, Nat.le_of_ble_eq_true rfl⟩) (fun r_2 u_3 H locs h_1 hw => ?_)
  subst h_1
  by_cases n_4 : (sA κ 3 (aN xb)) = 0
  · refine r_topv (y := .null) (by rw [gN_in (by assumption) (by decide)]; show va_rf ((rT (sA κ 3 (aN xb))).map ad) = _; rw [rT0 n_4]; rfl) ?_
    refine lv_astore_nN (lv' := [(2, .null), (0, .ref (ad 5)), (1, .ref (ad ρ))]) hx hb dX7_useKnot_11 rfl hl (by decide) rfl (fun ls hl => ?_)
    refine lv_aload_nN hx hb dX7_useKnot_12 rfl (lv_at hl 0 rfl) ?_
    refine lv_aload_n hx hb dX7_useKnot_13 rfl (lv_at hl 2 rfl) ?_
    refine r_get hC hw rk5 in_X7_useKnot_5 ρ hst.1 hst.2 0 (by decide) lk_X7_useKnot_15 (v := .int 62) rfl dX7_useKnot_14 ?_
    refine lv_bipush (v := 66) hx hb dX7_useKnot_17 (by decide) ?_
    refine lv_icmp_ne (tgt := 27) hx hb dX7_useKnot_19 (by decide) (fun _ => ?_) (fun c_ => absurd c_ (by decide))
    refine lv_bipush (v := 11) hx hb dX7_useKnot_27 (by decide) ?_
    refine r_ki hw (r_runSN (rest := []) hC hw hw.1.2.1 lks_X7_useKnot lkz_X7_useKnot_94 (c_X8_misfitsN_11 l _ _) 2 gX7_useKnot_X8_misfits_n94 rfl rfl rfl (by decide +kernel) ⟨Nat.le_of_ble_eq_true rfl, Nat.le_of_ble_eq_true rfl⟩ rfl hl.1 rfl (Nat.le_of_ble_eq_true rfl) dX7_useKnot_29 ⟨Nat.le_of_ble_eq_true rfl, Nat.le_of_ble_eq_true rfl⟩) (fun r_6 u_7 H locs h_5 hw => ?_)
    subst h_5
    have w_8 : ¬ pWrong κ (sA κ 3 (aN xb)) 11 := fun h => h.1 n_4
    refine lv_if_eq (tgt := 37) hx hb dX7_useKnot_32 (by decide) (fun _ => ?_) (fun c_ => absurd (by decide) c_)
    refine lv_aload_n hx hb dX7_useKnot_37 rfl (lv_at hl 2 rfl) ?_
    refine r_get hC hw rk5 in_X7_useKnot_5 ρ hst.1 hst.2 0 (by decide) lk_X7_useKnot_15 (v := .int 62) rfl dX7_useKnot_38 ?_
    refine lv_bipush (v := 64) hx hb dX7_useKnot_41 (by decide) ?_
    refine lv_icmp_ne (tgt := 67) hx hb dX7_useKnot_43 (by decide) (fun _ => ?_) (fun c_ => absurd c_ (by decide))
    refine lv_aload_nN hx hb dX7_useKnot_67 rfl (lv_at hl 0 rfl) ?_
    refine lv_ifnonnullN hx hb dX7_useKnot_68 ?_
    refine lv_iconst (v := 1) hx hb dX7_useKnot_71 (by decide) ?_
    exact r_iret hC hr hlk hw κ rfl (doRf (κ := κ) (hd := hd) (th := th) (k := 62) (a := xa) (b := xb) (c := xc) ((if_neg w_8).trans (if_pos n_4)) (by decide)).symm (Nat.le_of_ble_eq_true rfl) (Nat.le_of_ble_eq_true rfl) dX7_useKnot_72
  · refine r_topv (y := .ref (ad (100 + 4 * (aN ((sA κ 3 (aN xb)) - 1))))) (by rw [gN_in (by assumption) (by decide)]; show va_rf ((rT (sA κ 3 (aN xb))).map ad) = _; rw [rT1 n_4]; rfl) ?_
    have hB_b := hX.2.1 xb (by assumption) n_4
    have h6_b : (aN ((sA κ 3 (aN xb)) - 1)) < 60 := Nat.lt_of_lt_of_le hB_b.2 hX.1
    have hl_b : (wX q ad κ τ).2.1 (100 + 4 * (aN ((sA κ 3 (aN xb)) - 1))) := thl hB_b.2
    have hc_b : (wX q ad κ τ).2.2 (100 + 4 * (aN ((sA κ 3 (aN xb)) - 1))) = .inr (6, fsT ad κ (aN ((sA κ 3 (aN xb)) - 1))) := thc h6_b
    have hk_b := hX.2.2.1 _ hB_b.2
    refine lv_astore_n (lv' := [(2, .ref (ad (100 + 4 * (aN ((sA κ 3 (aN xb)) - 1))))), (0, .ref (ad 5)), (1, .ref (ad ρ))]) hx hb dX7_useKnot_11 rfl hl (by decide) rfl (fun ls hl => ?_)
    refine lv_aload_n hx hb dX7_useKnot_12 rfl (lv_at hl 0 rfl) ?_
    refine lv_aload_n hx hb dX7_useKnot_13 rfl (lv_at hl 2 rfl) ?_
    refine r_get hC hw rk5 in_X7_useKnot_5 ρ hst.1 hst.2 0 (by decide) lk_X7_useKnot_15 (v := .int 62) rfl dX7_useKnot_14 ?_
    refine lv_bipush (v := 66) hx hb dX7_useKnot_17 (by decide) ?_
    refine lv_icmp_ne (tgt := 27) hx hb dX7_useKnot_19 (by decide) (fun _ => ?_) (fun c_ => absurd c_ (by decide))
    refine lv_bipush (v := 11) hx hb dX7_useKnot_27 (by decide) ?_
    refine r_ki hw (r_runSN (rest := []) hC hw hw.1.2.1 lks_X7_useKnot lkz_X7_useKnot_94 (c_X8_misfits_11 l _ _ (100 + 4 * (aN ((sA κ 3 (aN xb)) - 1))) hk_b.1 hl_b hc_b) 2 gX7_useKnot_X8_misfits_n94 rfl rfl rfl (by decide +kernel) ⟨Nat.le_of_ble_eq_true rfl, Nat.le_of_ble_eq_true rfl⟩ rfl hl.1 rfl (Nat.le_of_ble_eq_true rfl) dX7_useKnot_29 ⟨Nat.le_of_ble_eq_true rfl, Nat.le_of_ble_eq_true rfl⟩) (fun r_10 u_11 H locs h_9 hw => ?_)
    by_cases c_12 : pOf (sA κ 4 (aN ((sA κ 3 (aN xb)) - 1))) 11
    · rw [if_pos c_12] at h_9
      subst h_9
      have w_13 : ¬ pWrong κ (sA κ 3 (aN xb)) 11 := fun h => h.2 c_12
      refine lv_if_eq (tgt := 37) hx hb dX7_useKnot_32 (by decide) (fun _ => ?_) (fun c_ => absurd (by decide) c_)
      refine lv_aload_n hx hb dX7_useKnot_37 rfl (lv_at hl 2 rfl) ?_
      refine r_get hC hw rk5 in_X7_useKnot_5 ρ hst.1 hst.2 0 (by decide) lk_X7_useKnot_15 (v := .int 62) rfl dX7_useKnot_38 ?_
      refine lv_bipush (v := 64) hx hb dX7_useKnot_41 (by decide) ?_
      refine lv_icmp_ne (tgt := 67) hx hb dX7_useKnot_43 (by decide) (fun _ => ?_) (fun c_ => absurd c_ (by decide))
      refine lv_aload_n hx hb dX7_useKnot_67 rfl (lv_at hl 0 rfl) ?_
      refine lv_ifnonnull (tgt := 73) hx hb dX7_useKnot_68 (by decide) ?_
      refine lv_aload_n hx hb dX7_useKnot_73 rfl (lv_at hl 2 rfl) ?_
      refine r_get hC hw rk5 in_X7_useKnot_5 ρ hst.1 hst.2 0 (by decide) lk_X7_useKnot_15 (v := .int 62) rfl dX7_useKnot_74 ?_
      refine lv_tableIn (tgt := 170) hx hb dX7_useKnot_77 (by decide) (by decide) (by rfl) (by decide) ?_
      refine lv_aload_n hx hb dX7_useKnot_170 rfl (lv_at hl 0 rfl) ?_
      refine lv_aload_n hx hb dX7_useKnot_171 rfl (lv_at hl 1 rfl) ?_
      refine r_get hC hw rk7 in_X7_useKnot_7 5 (wXl 5 (by decide)) wXc5 0 (by decide) lk_X7_useKnot_9 (v := .ref (ad 2)) rfl dX7_useKnot_172 ?_
      refine lv_aload_n hx hb dX7_useKnot_175 rfl (lv_at hl 2 rfl) ?_
      refine r_get hC hw rk5 in_X7_useKnot_5 ρ hst.1 hst.2 1 (by decide) lk_X7_useKnot_69 (v := .int xa) rfl dX7_useKnot_176 ?_
      refine r_kl hw (r_runV (rest := [.ref (ad (100 + 4 * (aN ((sA κ 3 (aN xb)) - 1))))]) hC hw 2 (c_X3_getLong l _ _ 2 9 xa (wXl 2 (by decide)) wXc2 (wXl 9 (by decide)) wXc9) rk3 (wXl 2 (by decide)) wXc2 1 gX7_useKnot_X3_getLong rfl rfl rfl (by decide +kernel) ⟨Nat.le_of_ble_eq_true rfl, Nat.le_of_ble_eq_true rfl⟩ rfl hl.1 rfl (Nat.le_of_ble_eq_true rfl) dX7_useKnot_179 ⟨Nat.le_of_ble_eq_true rfl, Nat.le_of_ble_eq_true rfl⟩) (fun r_15 u_16 H locs h_14 hw => ?_)
      subst h_14
      refine r_topv (y := .long (sJ κ 0 (aN xa))) (congrArg _ (gN_in (by assumption) (by decide))) ?_
      refine r_put hC hw rk6 in_X7_useKnot_6 (100 + 4 * (aN ((sA κ 3 (aN xb)) - 1))) hl_b hc_b 6 (by decide) lk_X7_useKnot_168 rfl rfl rfl (Nat.le_of_ble_eq_true rfl) dX7_useKnot_182 (fun H locs hw => ?_)
      replace hw := xT_weight h6_b hw
      refine lv_goto (tgt := 250) hx hb dX7_useKnot_185 (by decide) ?_
      refine lv_iconst (v := 0) hx hb dX7_useKnot_250 (by decide) ?_
      exact r_iret hC hr hlk hw (uJ κ 2 (aN ((sA κ 3 (aN xb)) - 1)) (sJ κ 0 (aN xa))) rfl (doR0 (κ := κ) (hd := hd) (th := th) (k := 62) (a := xa) (b := xb) (c := xc) ((if_neg w_13).trans (if_neg n_4))).symm (Nat.le_of_ble_eq_true rfl) (Nat.le_of_ble_eq_true rfl) dX7_useKnot_251
    · rw [if_neg c_12] at h_9
      subst h_9
      have w_17 : pWrong κ (sA κ 3 (aN xb)) 11 := ⟨n_4, c_12⟩
      refine lv_if_eq (tgt := 37) hx hb dX7_useKnot_32 (by decide) (fun c_ => absurd c_ (by decide)) (fun _ => ?_)
      refine lv_iconst (v := 4) hx hb dX7_useKnot_35 (by decide) ?_
      exact r_iret hC hr hlk hw κ rfl (doRf (κ := κ) (hd := hd) (th := th) (k := 62) (a := xa) (b := xb) (c := xc) (if_pos w_17) (by decide)).symm (Nat.le_of_ble_eq_true rfl) (Nat.le_of_ble_eq_true rfl) dX7_useKnot_36

set_option maxHeartbeats 4000000 in
set_option maxRecDepth 100000 in
theorem c_X7_useKnot_63 (l : Launch) {D : va_G} {q : Nat → ClassId} {ad : Nat → Nat} {κ : KS} {τ : TAU} (sz : Nat) (ρ : Nat) (xa xb xc hd th : Int32) (hst : stepAt q ad κ τ ρ 63 xa xb xc) (hs : okStep 63 xa xb xc)(hX : WFx κ) (hN : nnOp κ 63 xa xb xc) : Met l yX7_useKnot wsX7_useKnot (rmz 2 42) (va_Pc [.ref (ad 5), .ref (ad ρ)] (rPre D q (wX q ad κ τ) sz)) (va_Qi (fun (r : Int32) (u : KS) => (r, u) = doR κ hd th 63 xa xb xc) (fun (u : KS) tt => rPo D (rA (wX q ad κ τ) sz) (wX q ad u τ) tt) (rA (wX q ad κ τ) sz)) 0 0 (rA (wX q ad κ τ) sz) := by
  have hi0 : vp_in xa 8 := hs.1
  have hi1 : vp_in xb 8 := hs.2.1
  refine r_start (cc := cX7_useKnot) (maxL := 3) (ret := (some .int)) (by decide) rfl (Nat.le_of_ble_eq_true rfl) ?_
  intro p e s m below meth c ls hC hr hlk hnm hsz hw hl
  have hx := hC.1
  have hb := hC.2.1
  have hl : lv_has ls 3 [(0, .ref (ad 5)), (1, .ref (ad ρ))] := hl
  refine lv_aload_n hx hb dX7_useKnot_0 rfl (lv_at hl 0 rfl) ?_
  refine r_get hC hw rk7 in_X7_useKnot_7 5 (wXl 5 (by decide)) wXc5 0 (by decide) lk_X7_useKnot_9 (v := .ref (ad 2)) rfl dX7_useKnot_1 ?_
  refine lv_aload_n hx hb dX7_useKnot_4 rfl (lv_at hl 1 rfl) ?_
  refine r_get hC hw rk5 in_X7_useKnot_5 ρ hst.1 hst.2 2 (by decide) lk_X7_useKnot_74 (v := .int xb) rfl dX7_useKnot_5 ?_
  refine r_kq hw (r_runV (rest := []) hC hw 2 (c_X3_getThing l _ _ 2 12 xb (wXl 2 (by decide)) wXc2 (wXl 12 (by decide)) wXc12) rk3 (wXl 2 (by decide)) wXc2 1 gX7_useKnot_X3_getThing rfl rfl rfl (by decide +kernel) ⟨Nat.le_of_ble_eq_true rfl, Nat.le_of_ble_eq_true rfl⟩ rfl hl.1 rfl (Nat.le_of_ble_eq_true rfl) dX7_useKnot_8 ⟨Nat.le_of_ble_eq_true rfl, Nat.le_of_ble_eq_true rfl⟩) (fun r_2 u_3 H locs h_1 hw => ?_)
  subst h_1
  by_cases n_4 : (sA κ 3 (aN xb)) = 0
  · refine r_topv (y := .null) (by rw [gN_in (by assumption) (by decide)]; show va_rf ((rT (sA κ 3 (aN xb))).map ad) = _; rw [rT0 n_4]; rfl) ?_
    refine lv_astore_nN (lv' := [(2, .null), (0, .ref (ad 5)), (1, .ref (ad ρ))]) hx hb dX7_useKnot_11 rfl hl (by decide) rfl (fun ls hl => ?_)
    refine lv_aload_nN hx hb dX7_useKnot_12 rfl (lv_at hl 0 rfl) ?_
    refine lv_aload_n hx hb dX7_useKnot_13 rfl (lv_at hl 2 rfl) ?_
    refine r_get hC hw rk5 in_X7_useKnot_5 ρ hst.1 hst.2 0 (by decide) lk_X7_useKnot_15 (v := .int 63) rfl dX7_useKnot_14 ?_
    refine lv_bipush (v := 66) hx hb dX7_useKnot_17 (by decide) ?_
    refine lv_icmp_ne (tgt := 27) hx hb dX7_useKnot_19 (by decide) (fun _ => ?_) (fun c_ => absurd c_ (by decide))
    refine lv_bipush (v := 11) hx hb dX7_useKnot_27 (by decide) ?_
    refine r_ki hw (r_runSN (rest := []) hC hw hw.1.2.1 lks_X7_useKnot lkz_X7_useKnot_94 (c_X8_misfitsN_11 l _ _) 2 gX7_useKnot_X8_misfits_n94 rfl rfl rfl (by decide +kernel) ⟨Nat.le_of_ble_eq_true rfl, Nat.le_of_ble_eq_true rfl⟩ rfl hl.1 rfl (Nat.le_of_ble_eq_true rfl) dX7_useKnot_29 ⟨Nat.le_of_ble_eq_true rfl, Nat.le_of_ble_eq_true rfl⟩) (fun r_6 u_7 H locs h_5 hw => ?_)
    subst h_5
    have w_8 : ¬ pWrong κ (sA κ 3 (aN xb)) 11 := fun h => h.1 n_4
    refine lv_if_eq (tgt := 37) hx hb dX7_useKnot_32 (by decide) (fun _ => ?_) (fun c_ => absurd (by decide) c_)
    refine lv_aload_n hx hb dX7_useKnot_37 rfl (lv_at hl 2 rfl) ?_
    refine r_get hC hw rk5 in_X7_useKnot_5 ρ hst.1 hst.2 0 (by decide) lk_X7_useKnot_15 (v := .int 63) rfl dX7_useKnot_38 ?_
    refine lv_bipush (v := 64) hx hb dX7_useKnot_41 (by decide) ?_
    refine lv_icmp_ne (tgt := 67) hx hb dX7_useKnot_43 (by decide) (fun _ => ?_) (fun c_ => absurd c_ (by decide))
    refine lv_aload_nN hx hb dX7_useKnot_67 rfl (lv_at hl 0 rfl) ?_
    refine lv_ifnonnullN hx hb dX7_useKnot_68 ?_
    refine lv_iconst (v := 1) hx hb dX7_useKnot_71 (by decide) ?_
    exact r_iret hC hr hlk hw κ rfl (doRf (κ := κ) (hd := hd) (th := th) (k := 63) (a := xa) (b := xb) (c := xc) ((if_neg w_8).trans (if_pos n_4)) (by decide)).symm (Nat.le_of_ble_eq_true rfl) (Nat.le_of_ble_eq_true rfl) dX7_useKnot_72
  · refine r_topv (y := .ref (ad (100 + 4 * (aN ((sA κ 3 (aN xb)) - 1))))) (by rw [gN_in (by assumption) (by decide)]; show va_rf ((rT (sA κ 3 (aN xb))).map ad) = _; rw [rT1 n_4]; rfl) ?_
    have hB_b := hX.2.1 xb (by assumption) n_4
    have h6_b : (aN ((sA κ 3 (aN xb)) - 1)) < 60 := Nat.lt_of_lt_of_le hB_b.2 hX.1
    have hl_b : (wX q ad κ τ).2.1 (100 + 4 * (aN ((sA κ 3 (aN xb)) - 1))) := thl hB_b.2
    have hc_b : (wX q ad κ τ).2.2 (100 + 4 * (aN ((sA κ 3 (aN xb)) - 1))) = .inr (6, fsT ad κ (aN ((sA κ 3 (aN xb)) - 1))) := thc h6_b
    have hk_b := hX.2.2.1 _ hB_b.2
    refine lv_astore_n (lv' := [(2, .ref (ad (100 + 4 * (aN ((sA κ 3 (aN xb)) - 1))))), (0, .ref (ad 5)), (1, .ref (ad ρ))]) hx hb dX7_useKnot_11 rfl hl (by decide) rfl (fun ls hl => ?_)
    refine lv_aload_n hx hb dX7_useKnot_12 rfl (lv_at hl 0 rfl) ?_
    refine lv_aload_n hx hb dX7_useKnot_13 rfl (lv_at hl 2 rfl) ?_
    refine r_get hC hw rk5 in_X7_useKnot_5 ρ hst.1 hst.2 0 (by decide) lk_X7_useKnot_15 (v := .int 63) rfl dX7_useKnot_14 ?_
    refine lv_bipush (v := 66) hx hb dX7_useKnot_17 (by decide) ?_
    refine lv_icmp_ne (tgt := 27) hx hb dX7_useKnot_19 (by decide) (fun _ => ?_) (fun c_ => absurd c_ (by decide))
    refine lv_bipush (v := 11) hx hb dX7_useKnot_27 (by decide) ?_
    refine r_ki hw (r_runSN (rest := []) hC hw hw.1.2.1 lks_X7_useKnot lkz_X7_useKnot_94 (c_X8_misfits_11 l _ _ (100 + 4 * (aN ((sA κ 3 (aN xb)) - 1))) hk_b.1 hl_b hc_b) 2 gX7_useKnot_X8_misfits_n94 rfl rfl rfl (by decide +kernel) ⟨Nat.le_of_ble_eq_true rfl, Nat.le_of_ble_eq_true rfl⟩ rfl hl.1 rfl (Nat.le_of_ble_eq_true rfl) dX7_useKnot_29 ⟨Nat.le_of_ble_eq_true rfl, Nat.le_of_ble_eq_true rfl⟩) (fun r_10 u_11 H locs h_9 hw => ?_)
    by_cases c_12 : pOf (sA κ 4 (aN ((sA κ 3 (aN xb)) - 1))) 11
    · rw [if_pos c_12] at h_9
      subst h_9
      have w_13 : ¬ pWrong κ (sA κ 3 (aN xb)) 11 := fun h => h.2 c_12
      refine lv_if_eq (tgt := 37) hx hb dX7_useKnot_32 (by decide) (fun _ => ?_) (fun c_ => absurd (by decide) c_)
      refine lv_aload_n hx hb dX7_useKnot_37 rfl (lv_at hl 2 rfl) ?_
      refine r_get hC hw rk5 in_X7_useKnot_5 ρ hst.1 hst.2 0 (by decide) lk_X7_useKnot_15 (v := .int 63) rfl dX7_useKnot_38 ?_
      refine lv_bipush (v := 64) hx hb dX7_useKnot_41 (by decide) ?_
      refine lv_icmp_ne (tgt := 67) hx hb dX7_useKnot_43 (by decide) (fun _ => ?_) (fun c_ => absurd c_ (by decide))
      refine lv_aload_n hx hb dX7_useKnot_67 rfl (lv_at hl 0 rfl) ?_
      refine lv_ifnonnull (tgt := 73) hx hb dX7_useKnot_68 (by decide) ?_
      refine lv_aload_n hx hb dX7_useKnot_73 rfl (lv_at hl 2 rfl) ?_
      refine r_get hC hw rk5 in_X7_useKnot_5 ρ hst.1 hst.2 0 (by decide) lk_X7_useKnot_15 (v := .int 63) rfl dX7_useKnot_74 ?_
      refine lv_tableIn (tgt := 188) hx hb dX7_useKnot_77 (by decide) (by decide) (by rfl) (by decide) ?_
      refine lv_aload_n hx hb dX7_useKnot_188 rfl (lv_at hl 1 rfl) ?_
      refine r_get hC hw rk7 in_X7_useKnot_7 5 (wXl 5 (by decide)) wXc5 0 (by decide) lk_X7_useKnot_9 (v := .ref (ad 2)) rfl dX7_useKnot_189 ?_
      refine lv_aload_n hx hb dX7_useKnot_192 rfl (lv_at hl 2 rfl) ?_
      refine r_get hC hw rk5 in_X7_useKnot_5 ρ hst.1 hst.2 1 (by decide) lk_X7_useKnot_69 (v := .int xa) rfl dX7_useKnot_193 ?_
      refine lv_aload_n hx hb dX7_useKnot_196 rfl (lv_at hl 0 rfl) ?_
      refine r_get hC hw rk6 in_X7_useKnot_6 (100 + 4 * (aN ((sA κ 3 (aN xb)) - 1))) hl_b hc_b 7 (by decide) lk_X7_useKnot_98 (v := va_rf ((rT (sA κ 8 (aN ((sA κ 3 (aN xb)) - 1)))).map ad)) rfl dX7_useKnot_197 ?_
      refine r_kv hw (r_runV (rest := []) hC hw 2 (c_X3_setThingQ l _ _ 2 12 xa (rT (sA κ 8 (aN ((sA κ 3 (aN xb)) - 1)))) (by assumption) (rT_live (hX.2.2.2.1 _ hB_b.2) hX.1) (wXl 2 (by decide)) wXc2 (wXl 12 (by decide)) wXc12) rk3 (wXl 2 (by decide)) wXc2 2 gX7_useKnot_X3_setThing rfl rfl rfl (by decide +kernel) ⟨Nat.le_of_ble_eq_true rfl, Nat.le_of_ble_eq_true rfl⟩ rfl hl.1 rfl (Nat.le_of_ble_eq_true rfl) dX7_useKnot_200 ⟨Nat.le_of_ble_eq_true rfl, Nat.le_of_ble_eq_true rfl⟩) (fun u_16 H locs h_14 hw => ?_)
      replace hw := xS_refs (v := sA κ 8 (aN ((sA κ 3 (aN xb)) - 1))) rfl hw
      refine lv_goto (tgt := 250) hx hb dX7_useKnot_203 (by decide) ?_
      refine lv_iconst (v := 0) hx hb dX7_useKnot_250 (by decide) ?_
      exact r_iret hC hr hlk hw (uA κ 3 (aN xa) (sA κ 8 (aN ((sA κ 3 (aN xb)) - 1)))) rfl (doR0 (κ := κ) (hd := hd) (th := th) (k := 63) (a := xa) (b := xb) (c := xc) ((if_neg w_13).trans (if_neg n_4))).symm (Nat.le_of_ble_eq_true rfl) (Nat.le_of_ble_eq_true rfl) dX7_useKnot_251
    · rw [if_neg c_12] at h_9
      subst h_9
      have w_17 : pWrong κ (sA κ 3 (aN xb)) 11 := ⟨n_4, c_12⟩
      refine lv_if_eq (tgt := 37) hx hb dX7_useKnot_32 (by decide) (fun c_ => absurd c_ (by decide)) (fun _ => ?_)
      refine lv_iconst (v := 4) hx hb dX7_useKnot_35 (by decide) ?_
      exact r_iret hC hr hlk hw κ rfl (doRf (κ := κ) (hd := hd) (th := th) (k := 63) (a := xa) (b := xb) (c := xc) (if_pos w_17) (by decide)).symm (Nat.le_of_ble_eq_true rfl) (Nat.le_of_ble_eq_true rfl) dX7_useKnot_36

set_option maxHeartbeats 4000000 in
set_option maxRecDepth 100000 in
theorem c_X7_useKnot_64 (l : Launch) {D : va_G} {q : Nat → ClassId} {ad : Nat → Nat} {κ : KS} {τ : TAU} (sz : Nat) (ρ : Nat) (xa xb xc hd th : Int32) (hst : stepAt q ad κ τ ρ 64 xa xb xc) (hs : okStep 64 xa xb xc)(hX : WFx κ) (hN : nnOp κ 64 xa xb xc) : Met l yX7_useKnot wsX7_useKnot (rmz 2 42) (va_Pc [.ref (ad 5), .ref (ad ρ)] (rPre D q (wX q ad κ τ) sz)) (va_Qi (fun (r : Int32) (u : KS) => (r, u) = doR κ hd th 64 xa xb xc) (fun (u : KS) tt => rPo D (rA (wX q ad κ τ) sz) (wX q ad u τ) tt) (rA (wX q ad κ τ) sz)) 0 0 (rA (wX q ad κ τ) sz) := by
  have hi0 : vp_in xa 8 := hs.1
  have hi1 : vp_in xb 8 := hs.2.1
  refine r_start (cc := cX7_useKnot) (maxL := 3) (ret := (some .int)) (by decide) rfl (Nat.le_of_ble_eq_true rfl) ?_
  intro p e s m below meth c ls hC hr hlk hnm hsz hw hl
  have hx := hC.1
  have hb := hC.2.1
  have hl : lv_has ls 3 [(0, .ref (ad 5)), (1, .ref (ad ρ))] := hl
  refine lv_aload_n hx hb dX7_useKnot_0 rfl (lv_at hl 0 rfl) ?_
  refine r_get hC hw rk7 in_X7_useKnot_7 5 (wXl 5 (by decide)) wXc5 0 (by decide) lk_X7_useKnot_9 (v := .ref (ad 2)) rfl dX7_useKnot_1 ?_
  refine lv_aload_n hx hb dX7_useKnot_4 rfl (lv_at hl 1 rfl) ?_
  refine r_get hC hw rk5 in_X7_useKnot_5 ρ hst.1 hst.2 2 (by decide) lk_X7_useKnot_74 (v := .int xb) rfl dX7_useKnot_5 ?_
  refine r_kq hw (r_runV (rest := []) hC hw 2 (c_X3_getThing l _ _ 2 12 xb (wXl 2 (by decide)) wXc2 (wXl 12 (by decide)) wXc12) rk3 (wXl 2 (by decide)) wXc2 1 gX7_useKnot_X3_getThing rfl rfl rfl (by decide +kernel) ⟨Nat.le_of_ble_eq_true rfl, Nat.le_of_ble_eq_true rfl⟩ rfl hl.1 rfl (Nat.le_of_ble_eq_true rfl) dX7_useKnot_8 ⟨Nat.le_of_ble_eq_true rfl, Nat.le_of_ble_eq_true rfl⟩) (fun r_2 u_3 H locs h_1 hw => ?_)
  subst h_1
  by_cases n_4 : (sA κ 3 (aN xb)) = 0
  · refine r_topv (y := .null) (by rw [gN_in (by assumption) (by decide)]; show va_rf ((rT (sA κ 3 (aN xb))).map ad) = _; rw [rT0 n_4]; rfl) ?_
    refine lv_astore_nN (lv' := [(2, .null), (0, .ref (ad 5)), (1, .ref (ad ρ))]) hx hb dX7_useKnot_11 rfl hl (by decide) rfl (fun ls hl => ?_)
    refine lv_aload_nN hx hb dX7_useKnot_12 rfl (lv_at hl 0 rfl) ?_
    refine lv_aload_n hx hb dX7_useKnot_13 rfl (lv_at hl 2 rfl) ?_
    refine r_get hC hw rk5 in_X7_useKnot_5 ρ hst.1 hst.2 0 (by decide) lk_X7_useKnot_15 (v := .int 64) rfl dX7_useKnot_14 ?_
    refine lv_bipush (v := 66) hx hb dX7_useKnot_17 (by decide) ?_
    refine lv_icmp_ne (tgt := 27) hx hb dX7_useKnot_19 (by decide) (fun _ => ?_) (fun c_ => absurd c_ (by decide))
    refine lv_bipush (v := 11) hx hb dX7_useKnot_27 (by decide) ?_
    refine r_ki hw (r_runSN (rest := []) hC hw hw.1.2.1 lks_X7_useKnot lkz_X7_useKnot_94 (c_X8_misfitsN_11 l _ _) 2 gX7_useKnot_X8_misfits_n94 rfl rfl rfl (by decide +kernel) ⟨Nat.le_of_ble_eq_true rfl, Nat.le_of_ble_eq_true rfl⟩ rfl hl.1 rfl (Nat.le_of_ble_eq_true rfl) dX7_useKnot_29 ⟨Nat.le_of_ble_eq_true rfl, Nat.le_of_ble_eq_true rfl⟩) (fun r_6 u_7 H locs h_5 hw => ?_)
    subst h_5
    have w_8 : ¬ pWrong κ (sA κ 3 (aN xb)) 11 := fun h => h.1 n_4
    refine lv_if_eq (tgt := 37) hx hb dX7_useKnot_32 (by decide) (fun _ => ?_) (fun c_ => absurd (by decide) c_)
    refine lv_aload_n hx hb dX7_useKnot_37 rfl (lv_at hl 2 rfl) ?_
    refine r_get hC hw rk5 in_X7_useKnot_5 ρ hst.1 hst.2 0 (by decide) lk_X7_useKnot_15 (v := .int 64) rfl dX7_useKnot_38 ?_
    refine lv_bipush (v := 64) hx hb dX7_useKnot_41 (by decide) ?_
    refine lv_icmp_ne (tgt := 67) hx hb dX7_useKnot_43 (by decide) (fun c_ => absurd (by decide) c_) (fun _ => ?_)
    refine lv_aload_n hx hb dX7_useKnot_46 rfl (lv_at hl 1 rfl) ?_
    refine r_get hC hw rk7 in_X7_useKnot_7 5 (wXl 5 (by decide)) wXc5 0 (by decide) lk_X7_useKnot_9 (v := .ref (ad 2)) rfl dX7_useKnot_47 ?_
    refine lv_aload_n hx hb dX7_useKnot_50 rfl (lv_at hl 2 rfl) ?_
    refine r_get hC hw rk5 in_X7_useKnot_5 ρ hst.1 hst.2 1 (by decide) lk_X7_useKnot_69 (v := .int xa) rfl dX7_useKnot_51 ?_
    refine r_kq hw (r_runV (rest := []) hC hw 2 (c_X3_getThing l _ _ 2 12 xa (wXl 2 (by decide)) wXc2 (wXl 12 (by decide)) wXc12) rk3 (wXl 2 (by decide)) wXc2 1 gX7_useKnot_X3_getThing rfl rfl rfl (by decide +kernel) ⟨Nat.le_of_ble_eq_true rfl, Nat.le_of_ble_eq_true rfl⟩ rfl hl.1 rfl (Nat.le_of_ble_eq_true rfl) dX7_useKnot_54 ⟨Nat.le_of_ble_eq_true rfl, Nat.le_of_ble_eq_true rfl⟩) (fun r_10 u_11 H locs h_9 hw => ?_)
    subst h_9
    by_cases n_12 : (sA κ 3 (aN xa)) = 0
    · refine r_topv (y := .null) (by rw [gN_in (by assumption) (by decide)]; show va_rf ((rT (sA κ 3 (aN xa))).map ad) = _; rw [rT0 n_12]; rfl) ?_
      refine lv_bipush (v := 11) hx hb dX7_useKnot_57 (by decide) ?_
      refine r_ki hw (r_runSN (rest := []) hC hw hw.1.2.1 lks_X7_useKnot lkz_X7_useKnot_94 (c_X8_misfitsN_11 l _ _) 2 gX7_useKnot_X8_misfits_n94 rfl rfl rfl (by decide +kernel) ⟨Nat.le_of_ble_eq_true rfl, Nat.le_of_ble_eq_true rfl⟩ rfl hl.1 rfl (Nat.le_of_ble_eq_true rfl) dX7_useKnot_59 ⟨Nat.le_of_ble_eq_true rfl, Nat.le_of_ble_eq_true rfl⟩) (fun r_14 u_15 H locs h_13 hw => ?_)
      subst h_13
      have w_16 : ¬ pWrong κ (sA κ 3 (aN xa)) 11 := fun h => h.1 n_12
      refine lv_if_eq (tgt := 67) hx hb dX7_useKnot_62 (by decide) (fun _ => ?_) (fun c_ => absurd (by decide) c_)
      refine lv_aload_nN hx hb dX7_useKnot_67 rfl (lv_at hl 0 rfl) ?_
      refine lv_ifnonnullN hx hb dX7_useKnot_68 ?_
      refine lv_iconst (v := 1) hx hb dX7_useKnot_71 (by decide) ?_
      exact r_iret hC hr hlk hw κ rfl (doRf (κ := κ) (hd := hd) (th := th) (k := 64) (a := xa) (b := xb) (c := xc) ((if_neg w_8).trans ((if_neg w_16).trans (if_pos n_4))) (by decide)).symm (Nat.le_of_ble_eq_true rfl) (Nat.le_of_ble_eq_true rfl) dX7_useKnot_72
    · refine r_topv (y := .ref (ad (100 + 4 * (aN ((sA κ 3 (aN xa)) - 1))))) (by rw [gN_in (by assumption) (by decide)]; show va_rf ((rT (sA κ 3 (aN xa))).map ad) = _; rw [rT1 n_12]; rfl) ?_
      have hB_a := hX.2.1 xa (by assumption) n_12
      have h6_a : (aN ((sA κ 3 (aN xa)) - 1)) < 60 := Nat.lt_of_lt_of_le hB_a.2 hX.1
      have hl_a : (wX q ad κ τ).2.1 (100 + 4 * (aN ((sA κ 3 (aN xa)) - 1))) := thl hB_a.2
      have hc_a : (wX q ad κ τ).2.2 (100 + 4 * (aN ((sA κ 3 (aN xa)) - 1))) = .inr (6, fsT ad κ (aN ((sA κ 3 (aN xa)) - 1))) := thc h6_a
      have hk_a := hX.2.2.1 _ hB_a.2
      refine lv_bipush (v := 11) hx hb dX7_useKnot_57 (by decide) ?_
      refine r_ki hw (r_runSN (rest := []) hC hw hw.1.2.1 lks_X7_useKnot lkz_X7_useKnot_94 (c_X8_misfits_11 l _ _ (100 + 4 * (aN ((sA κ 3 (aN xa)) - 1))) hk_a.1 hl_a hc_a) 2 gX7_useKnot_X8_misfits_n94 rfl rfl rfl (by decide +kernel) ⟨Nat.le_of_ble_eq_true rfl, Nat.le_of_ble_eq_true rfl⟩ rfl hl.1 rfl (Nat.le_of_ble_eq_true rfl) dX7_useKnot_59 ⟨Nat.le_of_ble_eq_true rfl, Nat.le_of_ble_eq_true rfl⟩) (fun r_18 u_19 H locs h_17 hw => ?_)
      by_cases c_20 : pOf (sA κ 4 (aN ((sA κ 3 (aN xa)) - 1))) 11
      · rw [if_pos c_20] at h_17
        subst h_17
        have w_21 : ¬ pWrong κ (sA κ 3 (aN xa)) 11 := fun h => h.2 c_20
        refine lv_if_eq (tgt := 67) hx hb dX7_useKnot_62 (by decide) (fun _ => ?_) (fun c_ => absurd (by decide) c_)
        refine lv_aload_nN hx hb dX7_useKnot_67 rfl (lv_at hl 0 rfl) ?_
        refine lv_ifnonnullN hx hb dX7_useKnot_68 ?_
        refine lv_iconst (v := 1) hx hb dX7_useKnot_71 (by decide) ?_
        exact r_iret hC hr hlk hw κ rfl (doRf (κ := κ) (hd := hd) (th := th) (k := 64) (a := xa) (b := xb) (c := xc) ((if_neg w_8).trans ((if_neg w_21).trans (if_pos n_4))) (by decide)).symm (Nat.le_of_ble_eq_true rfl) (Nat.le_of_ble_eq_true rfl) dX7_useKnot_72
      · rw [if_neg c_20] at h_17
        subst h_17
        have w_22 : pWrong κ (sA κ 3 (aN xa)) 11 := ⟨n_12, c_20⟩
        refine lv_if_eq (tgt := 67) hx hb dX7_useKnot_62 (by decide) (fun c_ => absurd c_ (by decide)) (fun _ => ?_)
        refine lv_iconst (v := 4) hx hb dX7_useKnot_65 (by decide) ?_
        exact r_iret hC hr hlk hw κ rfl (doRf (κ := κ) (hd := hd) (th := th) (k := 64) (a := xa) (b := xb) (c := xc) ((if_neg w_8).trans (if_pos w_22)) (by decide)).symm (Nat.le_of_ble_eq_true rfl) (Nat.le_of_ble_eq_true rfl) dX7_useKnot_66
  · refine r_topv (y := .ref (ad (100 + 4 * (aN ((sA κ 3 (aN xb)) - 1))))) (by rw [gN_in (by assumption) (by decide)]; show va_rf ((rT (sA κ 3 (aN xb))).map ad) = _; rw [rT1 n_4]; rfl) ?_
    have hB_b := hX.2.1 xb (by assumption) n_4
    have h6_b : (aN ((sA κ 3 (aN xb)) - 1)) < 60 := Nat.lt_of_lt_of_le hB_b.2 hX.1
    have hl_b : (wX q ad κ τ).2.1 (100 + 4 * (aN ((sA κ 3 (aN xb)) - 1))) := thl hB_b.2
    have hc_b : (wX q ad κ τ).2.2 (100 + 4 * (aN ((sA κ 3 (aN xb)) - 1))) = .inr (6, fsT ad κ (aN ((sA κ 3 (aN xb)) - 1))) := thc h6_b
    have hk_b := hX.2.2.1 _ hB_b.2
    refine lv_astore_n (lv' := [(2, .ref (ad (100 + 4 * (aN ((sA κ 3 (aN xb)) - 1))))), (0, .ref (ad 5)), (1, .ref (ad ρ))]) hx hb dX7_useKnot_11 rfl hl (by decide) rfl (fun ls hl => ?_)
    refine lv_aload_n hx hb dX7_useKnot_12 rfl (lv_at hl 0 rfl) ?_
    refine lv_aload_n hx hb dX7_useKnot_13 rfl (lv_at hl 2 rfl) ?_
    refine r_get hC hw rk5 in_X7_useKnot_5 ρ hst.1 hst.2 0 (by decide) lk_X7_useKnot_15 (v := .int 64) rfl dX7_useKnot_14 ?_
    refine lv_bipush (v := 66) hx hb dX7_useKnot_17 (by decide) ?_
    refine lv_icmp_ne (tgt := 27) hx hb dX7_useKnot_19 (by decide) (fun _ => ?_) (fun c_ => absurd c_ (by decide))
    refine lv_bipush (v := 11) hx hb dX7_useKnot_27 (by decide) ?_
    refine r_ki hw (r_runSN (rest := []) hC hw hw.1.2.1 lks_X7_useKnot lkz_X7_useKnot_94 (c_X8_misfits_11 l _ _ (100 + 4 * (aN ((sA κ 3 (aN xb)) - 1))) hk_b.1 hl_b hc_b) 2 gX7_useKnot_X8_misfits_n94 rfl rfl rfl (by decide +kernel) ⟨Nat.le_of_ble_eq_true rfl, Nat.le_of_ble_eq_true rfl⟩ rfl hl.1 rfl (Nat.le_of_ble_eq_true rfl) dX7_useKnot_29 ⟨Nat.le_of_ble_eq_true rfl, Nat.le_of_ble_eq_true rfl⟩) (fun r_24 u_25 H locs h_23 hw => ?_)
    by_cases c_26 : pOf (sA κ 4 (aN ((sA κ 3 (aN xb)) - 1))) 11
    · rw [if_pos c_26] at h_23
      subst h_23
      have w_27 : ¬ pWrong κ (sA κ 3 (aN xb)) 11 := fun h => h.2 c_26
      refine lv_if_eq (tgt := 37) hx hb dX7_useKnot_32 (by decide) (fun _ => ?_) (fun c_ => absurd (by decide) c_)
      refine lv_aload_n hx hb dX7_useKnot_37 rfl (lv_at hl 2 rfl) ?_
      refine r_get hC hw rk5 in_X7_useKnot_5 ρ hst.1 hst.2 0 (by decide) lk_X7_useKnot_15 (v := .int 64) rfl dX7_useKnot_38 ?_
      refine lv_bipush (v := 64) hx hb dX7_useKnot_41 (by decide) ?_
      refine lv_icmp_ne (tgt := 67) hx hb dX7_useKnot_43 (by decide) (fun c_ => absurd (by decide) c_) (fun _ => ?_)
      refine lv_aload_n hx hb dX7_useKnot_46 rfl (lv_at hl 1 rfl) ?_
      refine r_get hC hw rk7 in_X7_useKnot_7 5 (wXl 5 (by decide)) wXc5 0 (by decide) lk_X7_useKnot_9 (v := .ref (ad 2)) rfl dX7_useKnot_47 ?_
      refine lv_aload_n hx hb dX7_useKnot_50 rfl (lv_at hl 2 rfl) ?_
      refine r_get hC hw rk5 in_X7_useKnot_5 ρ hst.1 hst.2 1 (by decide) lk_X7_useKnot_69 (v := .int xa) rfl dX7_useKnot_51 ?_
      refine r_kq hw (r_runV (rest := []) hC hw 2 (c_X3_getThing l _ _ 2 12 xa (wXl 2 (by decide)) wXc2 (wXl 12 (by decide)) wXc12) rk3 (wXl 2 (by decide)) wXc2 1 gX7_useKnot_X3_getThing rfl rfl rfl (by decide +kernel) ⟨Nat.le_of_ble_eq_true rfl, Nat.le_of_ble_eq_true rfl⟩ rfl hl.1 rfl (Nat.le_of_ble_eq_true rfl) dX7_useKnot_54 ⟨Nat.le_of_ble_eq_true rfl, Nat.le_of_ble_eq_true rfl⟩) (fun r_29 u_30 H locs h_28 hw => ?_)
      subst h_28
      by_cases n_31 : (sA κ 3 (aN xa)) = 0
      · refine r_topv (y := .null) (by rw [gN_in (by assumption) (by decide)]; show va_rf ((rT (sA κ 3 (aN xa))).map ad) = _; rw [rT0 n_31]; rfl) ?_
        refine lv_bipush (v := 11) hx hb dX7_useKnot_57 (by decide) ?_
        refine r_ki hw (r_runSN (rest := []) hC hw hw.1.2.1 lks_X7_useKnot lkz_X7_useKnot_94 (c_X8_misfitsN_11 l _ _) 2 gX7_useKnot_X8_misfits_n94 rfl rfl rfl (by decide +kernel) ⟨Nat.le_of_ble_eq_true rfl, Nat.le_of_ble_eq_true rfl⟩ rfl hl.1 rfl (Nat.le_of_ble_eq_true rfl) dX7_useKnot_59 ⟨Nat.le_of_ble_eq_true rfl, Nat.le_of_ble_eq_true rfl⟩) (fun r_33 u_34 H locs h_32 hw => ?_)
        subst h_32
        have w_35 : ¬ pWrong κ (sA κ 3 (aN xa)) 11 := fun h => h.1 n_31
        refine lv_if_eq (tgt := 67) hx hb dX7_useKnot_62 (by decide) (fun _ => ?_) (fun c_ => absurd (by decide) c_)
        refine lv_aload_n hx hb dX7_useKnot_67 rfl (lv_at hl 0 rfl) ?_
        refine lv_ifnonnull (tgt := 73) hx hb dX7_useKnot_68 (by decide) ?_
        refine lv_aload_n hx hb dX7_useKnot_73 rfl (lv_at hl 2 rfl) ?_
        refine r_get hC hw rk5 in_X7_useKnot_5 ρ hst.1 hst.2 0 (by decide) lk_X7_useKnot_15 (v := .int 64) rfl dX7_useKnot_74 ?_
        refine lv_tableIn (tgt := 206) hx hb dX7_useKnot_77 (by decide) (by decide) (by rfl) (by decide) ?_
        refine lv_aload_n hx hb dX7_useKnot_206 rfl (lv_at hl 0 rfl) ?_
        refine lv_aload_n hx hb dX7_useKnot_207 rfl (lv_at hl 1 rfl) ?_
        refine r_get hC hw rk7 in_X7_useKnot_7 5 (wXl 5 (by decide)) wXc5 0 (by decide) lk_X7_useKnot_9 (v := .ref (ad 2)) rfl dX7_useKnot_208 ?_
        refine lv_aload_n hx hb dX7_useKnot_211 rfl (lv_at hl 2 rfl) ?_
        refine r_get hC hw rk5 in_X7_useKnot_5 ρ hst.1 hst.2 1 (by decide) lk_X7_useKnot_69 (v := .int xa) rfl dX7_useKnot_212 ?_
        refine r_kq hw (r_runV (rest := [.ref (ad (100 + 4 * (aN ((sA κ 3 (aN xb)) - 1))))]) hC hw 2 (c_X3_getThing l _ _ 2 12 xa (wXl 2 (by decide)) wXc2 (wXl 12 (by decide)) wXc12) rk3 (wXl 2 (by decide)) wXc2 1 gX7_useKnot_X3_getThing rfl rfl rfl (by decide +kernel) ⟨Nat.le_of_ble_eq_true rfl, Nat.le_of_ble_eq_true rfl⟩ rfl hl.1 rfl (Nat.le_of_ble_eq_true rfl) dX7_useKnot_215 ⟨Nat.le_of_ble_eq_true rfl, Nat.le_of_ble_eq_true rfl⟩) (fun r_37 u_38 H locs h_36 hw => ?_)
        subst h_36
        by_cases n_39 : (sA κ 3 (aN xa)) = 0
        · refine r_topv (y := .null) (by rw [gN_in (by assumption) (by decide)]; show va_rf ((rT (sA κ 3 (aN xa))).map ad) = _; rw [rT0 n_39]; rfl) ?_
          refine r_topv (y := va_rf ((rT (sA κ 3 (aN xa))).map ad)) (by rw [rT0 n_39]; rfl) ?_
          refine r_put hC hw rk6 in_X7_useKnot_6 (100 + 4 * (aN ((sA κ 3 (aN xb)) - 1))) hl_b hc_b 7 (by decide) lk_X7_useKnot_98 rfl (rf_n _ _) (rf_f _ _) (Nat.le_of_ble_eq_true rfl) dX7_useKnot_218 (fun H locs hw => ?_)
          replace hw := xT_link h6_b hw
          refine lv_goto (tgt := 250) hx hb dX7_useKnot_221 (by decide) ?_
          refine lv_iconst (v := 0) hx hb dX7_useKnot_250 (by decide) ?_
          exact r_iret hC hr hlk hw (uA κ 8 (aN ((sA κ 3 (aN xb)) - 1)) (sA κ 3 (aN xa))) rfl (doR0 (κ := κ) (hd := hd) (th := th) (k := 64) (a := xa) (b := xb) (c := xc) ((if_neg w_27).trans ((if_neg w_35).trans (if_neg n_4)))).symm (Nat.le_of_ble_eq_true rfl) (Nat.le_of_ble_eq_true rfl) dX7_useKnot_251
        · refine r_topv (y := .ref (ad (100 + 4 * (aN ((sA κ 3 (aN xa)) - 1))))) (by rw [gN_in (by assumption) (by decide)]; show va_rf ((rT (sA κ 3 (aN xa))).map ad) = _; rw [rT1 n_39]; rfl) ?_
          have hB_a := hX.2.1 xa (by assumption) n_39
          have h6_a : (aN ((sA κ 3 (aN xa)) - 1)) < 60 := Nat.lt_of_lt_of_le hB_a.2 hX.1
          have hl_a : (wX q ad κ τ).2.1 (100 + 4 * (aN ((sA κ 3 (aN xa)) - 1))) := thl hB_a.2
          have hc_a : (wX q ad κ τ).2.2 (100 + 4 * (aN ((sA κ 3 (aN xa)) - 1))) = .inr (6, fsT ad κ (aN ((sA κ 3 (aN xa)) - 1))) := thc h6_a
          have hk_a := hX.2.2.1 _ hB_a.2
          refine r_topv (y := va_rf ((rT (sA κ 3 (aN xa))).map ad)) (by rw [rT1 n_39]; rfl) ?_
          refine r_put hC hw rk6 in_X7_useKnot_6 (100 + 4 * (aN ((sA κ 3 (aN xb)) - 1))) hl_b hc_b 7 (by decide) lk_X7_useKnot_98 rfl (rf_n _ _) (rf_f _ _) (Nat.le_of_ble_eq_true rfl) dX7_useKnot_218 (fun H locs hw => ?_)
          replace hw := xT_link h6_b hw
          refine lv_goto (tgt := 250) hx hb dX7_useKnot_221 (by decide) ?_
          refine lv_iconst (v := 0) hx hb dX7_useKnot_250 (by decide) ?_
          exact r_iret hC hr hlk hw (uA κ 8 (aN ((sA κ 3 (aN xb)) - 1)) (sA κ 3 (aN xa))) rfl (doR0 (κ := κ) (hd := hd) (th := th) (k := 64) (a := xa) (b := xb) (c := xc) ((if_neg w_27).trans ((if_neg w_35).trans (if_neg n_4)))).symm (Nat.le_of_ble_eq_true rfl) (Nat.le_of_ble_eq_true rfl) dX7_useKnot_251
      · refine r_topv (y := .ref (ad (100 + 4 * (aN ((sA κ 3 (aN xa)) - 1))))) (by rw [gN_in (by assumption) (by decide)]; show va_rf ((rT (sA κ 3 (aN xa))).map ad) = _; rw [rT1 n_31]; rfl) ?_
        have hB_a := hX.2.1 xa (by assumption) n_31
        have h6_a : (aN ((sA κ 3 (aN xa)) - 1)) < 60 := Nat.lt_of_lt_of_le hB_a.2 hX.1
        have hl_a : (wX q ad κ τ).2.1 (100 + 4 * (aN ((sA κ 3 (aN xa)) - 1))) := thl hB_a.2
        have hc_a : (wX q ad κ τ).2.2 (100 + 4 * (aN ((sA κ 3 (aN xa)) - 1))) = .inr (6, fsT ad κ (aN ((sA κ 3 (aN xa)) - 1))) := thc h6_a
        have hk_a := hX.2.2.1 _ hB_a.2
        refine lv_bipush (v := 11) hx hb dX7_useKnot_57 (by decide) ?_
        refine r_ki hw (r_runSN (rest := []) hC hw hw.1.2.1 lks_X7_useKnot lkz_X7_useKnot_94 (c_X8_misfits_11 l _ _ (100 + 4 * (aN ((sA κ 3 (aN xa)) - 1))) hk_a.1 hl_a hc_a) 2 gX7_useKnot_X8_misfits_n94 rfl rfl rfl (by decide +kernel) ⟨Nat.le_of_ble_eq_true rfl, Nat.le_of_ble_eq_true rfl⟩ rfl hl.1 rfl (Nat.le_of_ble_eq_true rfl) dX7_useKnot_59 ⟨Nat.le_of_ble_eq_true rfl, Nat.le_of_ble_eq_true rfl⟩) (fun r_41 u_42 H locs h_40 hw => ?_)
        by_cases c_43 : pOf (sA κ 4 (aN ((sA κ 3 (aN xa)) - 1))) 11
        · rw [if_pos c_43] at h_40
          subst h_40
          have w_44 : ¬ pWrong κ (sA κ 3 (aN xa)) 11 := fun h => h.2 c_43
          refine lv_if_eq (tgt := 67) hx hb dX7_useKnot_62 (by decide) (fun _ => ?_) (fun c_ => absurd (by decide) c_)
          refine lv_aload_n hx hb dX7_useKnot_67 rfl (lv_at hl 0 rfl) ?_
          refine lv_ifnonnull (tgt := 73) hx hb dX7_useKnot_68 (by decide) ?_
          refine lv_aload_n hx hb dX7_useKnot_73 rfl (lv_at hl 2 rfl) ?_
          refine r_get hC hw rk5 in_X7_useKnot_5 ρ hst.1 hst.2 0 (by decide) lk_X7_useKnot_15 (v := .int 64) rfl dX7_useKnot_74 ?_
          refine lv_tableIn (tgt := 206) hx hb dX7_useKnot_77 (by decide) (by decide) (by rfl) (by decide) ?_
          refine lv_aload_n hx hb dX7_useKnot_206 rfl (lv_at hl 0 rfl) ?_
          refine lv_aload_n hx hb dX7_useKnot_207 rfl (lv_at hl 1 rfl) ?_
          refine r_get hC hw rk7 in_X7_useKnot_7 5 (wXl 5 (by decide)) wXc5 0 (by decide) lk_X7_useKnot_9 (v := .ref (ad 2)) rfl dX7_useKnot_208 ?_
          refine lv_aload_n hx hb dX7_useKnot_211 rfl (lv_at hl 2 rfl) ?_
          refine r_get hC hw rk5 in_X7_useKnot_5 ρ hst.1 hst.2 1 (by decide) lk_X7_useKnot_69 (v := .int xa) rfl dX7_useKnot_212 ?_
          refine r_kq hw (r_runV (rest := [.ref (ad (100 + 4 * (aN ((sA κ 3 (aN xb)) - 1))))]) hC hw 2 (c_X3_getThing l _ _ 2 12 xa (wXl 2 (by decide)) wXc2 (wXl 12 (by decide)) wXc12) rk3 (wXl 2 (by decide)) wXc2 1 gX7_useKnot_X3_getThing rfl rfl rfl (by decide +kernel) ⟨Nat.le_of_ble_eq_true rfl, Nat.le_of_ble_eq_true rfl⟩ rfl hl.1 rfl (Nat.le_of_ble_eq_true rfl) dX7_useKnot_215 ⟨Nat.le_of_ble_eq_true rfl, Nat.le_of_ble_eq_true rfl⟩) (fun r_46 u_47 H locs h_45 hw => ?_)
          subst h_45
          by_cases n_48 : (sA κ 3 (aN xa)) = 0
          · refine r_topv (y := .null) (by rw [gN_in (by assumption) (by decide)]; show va_rf ((rT (sA κ 3 (aN xa))).map ad) = _; rw [rT0 n_48]; rfl) ?_
            refine r_topv (y := va_rf ((rT (sA κ 3 (aN xa))).map ad)) (by rw [rT0 n_48]; rfl) ?_
            refine r_put hC hw rk6 in_X7_useKnot_6 (100 + 4 * (aN ((sA κ 3 (aN xb)) - 1))) hl_b hc_b 7 (by decide) lk_X7_useKnot_98 rfl (rf_n _ _) (rf_f _ _) (Nat.le_of_ble_eq_true rfl) dX7_useKnot_218 (fun H locs hw => ?_)
            replace hw := xT_link h6_b hw
            refine lv_goto (tgt := 250) hx hb dX7_useKnot_221 (by decide) ?_
            refine lv_iconst (v := 0) hx hb dX7_useKnot_250 (by decide) ?_
            exact r_iret hC hr hlk hw (uA κ 8 (aN ((sA κ 3 (aN xb)) - 1)) (sA κ 3 (aN xa))) rfl (doR0 (κ := κ) (hd := hd) (th := th) (k := 64) (a := xa) (b := xb) (c := xc) ((if_neg w_27).trans ((if_neg w_44).trans (if_neg n_4)))).symm (Nat.le_of_ble_eq_true rfl) (Nat.le_of_ble_eq_true rfl) dX7_useKnot_251
          · refine r_topv (y := .ref (ad (100 + 4 * (aN ((sA κ 3 (aN xa)) - 1))))) (by rw [gN_in (by assumption) (by decide)]; show va_rf ((rT (sA κ 3 (aN xa))).map ad) = _; rw [rT1 n_48]; rfl) ?_
            have hB_a := hX.2.1 xa (by assumption) n_48
            have h6_a : (aN ((sA κ 3 (aN xa)) - 1)) < 60 := Nat.lt_of_lt_of_le hB_a.2 hX.1
            have hl_a : (wX q ad κ τ).2.1 (100 + 4 * (aN ((sA κ 3 (aN xa)) - 1))) := thl hB_a.2
            have hc_a : (wX q ad κ τ).2.2 (100 + 4 * (aN ((sA κ 3 (aN xa)) - 1))) = .inr (6, fsT ad κ (aN ((sA κ 3 (aN xa)) - 1))) := thc h6_a
            have hk_a := hX.2.2.1 _ hB_a.2
            refine r_topv (y := va_rf ((rT (sA κ 3 (aN xa))).map ad)) (by rw [rT1 n_48]; rfl) ?_
            refine r_put hC hw rk6 in_X7_useKnot_6 (100 + 4 * (aN ((sA κ 3 (aN xb)) - 1))) hl_b hc_b 7 (by decide) lk_X7_useKnot_98 rfl (rf_n _ _) (rf_f _ _) (Nat.le_of_ble_eq_true rfl) dX7_useKnot_218 (fun H locs hw => ?_)
            replace hw := xT_link h6_b hw
            refine lv_goto (tgt := 250) hx hb dX7_useKnot_221 (by decide) ?_
            refine lv_iconst (v := 0) hx hb dX7_useKnot_250 (by decide) ?_
            exact r_iret hC hr hlk hw (uA κ 8 (aN ((sA κ 3 (aN xb)) - 1)) (sA κ 3 (aN xa))) rfl (doR0 (κ := κ) (hd := hd) (th := th) (k := 64) (a := xa) (b := xb) (c := xc) ((if_neg w_27).trans ((if_neg w_44).trans (if_neg n_4)))).symm (Nat.le_of_ble_eq_true rfl) (Nat.le_of_ble_eq_true rfl) dX7_useKnot_251
        · rw [if_neg c_43] at h_40
          subst h_40
          have w_49 : pWrong κ (sA κ 3 (aN xa)) 11 := ⟨n_31, c_43⟩
          refine lv_if_eq (tgt := 67) hx hb dX7_useKnot_62 (by decide) (fun c_ => absurd c_ (by decide)) (fun _ => ?_)
          refine lv_iconst (v := 4) hx hb dX7_useKnot_65 (by decide) ?_
          exact r_iret hC hr hlk hw κ rfl (doRf (κ := κ) (hd := hd) (th := th) (k := 64) (a := xa) (b := xb) (c := xc) ((if_neg w_27).trans (if_pos w_49)) (by decide)).symm (Nat.le_of_ble_eq_true rfl) (Nat.le_of_ble_eq_true rfl) dX7_useKnot_66
    · rw [if_neg c_26] at h_23
      subst h_23
      have w_50 : pWrong κ (sA κ 3 (aN xb)) 11 := ⟨n_4, c_26⟩
      refine lv_if_eq (tgt := 37) hx hb dX7_useKnot_32 (by decide) (fun c_ => absurd c_ (by decide)) (fun _ => ?_)
      refine lv_iconst (v := 4) hx hb dX7_useKnot_35 (by decide) ?_
      exact r_iret hC hr hlk hw κ rfl (doRf (κ := κ) (hd := hd) (th := th) (k := 64) (a := xa) (b := xb) (c := xc) (if_pos w_50) (by decide)).symm (Nat.le_of_ble_eq_true rfl) (Nat.le_of_ble_eq_true rfl) dX7_useKnot_36

set_option maxHeartbeats 4000000 in
set_option maxRecDepth 100000 in
theorem c_X7_useKnot_65 (l : Launch) {D : va_G} {q : Nat → ClassId} {ad : Nat → Nat} {κ : KS} {τ : TAU} (sz : Nat) (ρ : Nat) (xa xb xc hd th : Int32) (hst : stepAt q ad κ τ ρ 65 xa xb xc) (hs : okStep 65 xa xb xc)(hX : WFx κ) (hN : nnOp κ 65 xa xb xc) : Met l yX7_useKnot wsX7_useKnot (rmz 2 42) (va_Pc [.ref (ad 5), .ref (ad ρ)] (rPre D q (wX q ad κ τ) sz)) (va_Qi (fun (r : Int32) (u : KS) => (r, u) = doR κ hd th 65 xa xb xc) (fun (u : KS) tt => rPo D (rA (wX q ad κ τ) sz) (wX q ad u τ) tt) (rA (wX q ad κ τ) sz)) 0 0 (rA (wX q ad κ τ) sz) := by
  have hi0 : vp_in xa 8 := hs.1
  have hi1 : vp_in xb 8 := hs.2.1
  have hi2 : vp_in xc 8 := hs.2.2
  refine r_start (cc := cX7_useKnot) (maxL := 3) (ret := (some .int)) (by decide) rfl (Nat.le_of_ble_eq_true rfl) ?_
  intro p e s m below meth c ls hC hr hlk hnm hsz hw hl
  have hx := hC.1
  have hb := hC.2.1
  have hl : lv_has ls 3 [(0, .ref (ad 5)), (1, .ref (ad ρ))] := hl
  refine lv_aload_n hx hb dX7_useKnot_0 rfl (lv_at hl 0 rfl) ?_
  refine r_get hC hw rk7 in_X7_useKnot_7 5 (wXl 5 (by decide)) wXc5 0 (by decide) lk_X7_useKnot_9 (v := .ref (ad 2)) rfl dX7_useKnot_1 ?_
  refine lv_aload_n hx hb dX7_useKnot_4 rfl (lv_at hl 1 rfl) ?_
  refine r_get hC hw rk5 in_X7_useKnot_5 ρ hst.1 hst.2 2 (by decide) lk_X7_useKnot_74 (v := .int xb) rfl dX7_useKnot_5 ?_
  refine r_kq hw (r_runV (rest := []) hC hw 2 (c_X3_getThing l _ _ 2 12 xb (wXl 2 (by decide)) wXc2 (wXl 12 (by decide)) wXc12) rk3 (wXl 2 (by decide)) wXc2 1 gX7_useKnot_X3_getThing rfl rfl rfl (by decide +kernel) ⟨Nat.le_of_ble_eq_true rfl, Nat.le_of_ble_eq_true rfl⟩ rfl hl.1 rfl (Nat.le_of_ble_eq_true rfl) dX7_useKnot_8 ⟨Nat.le_of_ble_eq_true rfl, Nat.le_of_ble_eq_true rfl⟩) (fun r_2 u_3 H locs h_1 hw => ?_)
  subst h_1
  by_cases n_4 : (sA κ 3 (aN xb)) = 0
  · refine r_topv (y := .null) (by rw [gN_in (by assumption) (by decide)]; show va_rf ((rT (sA κ 3 (aN xb))).map ad) = _; rw [rT0 n_4]; rfl) ?_
    refine lv_astore_nN (lv' := [(2, .null), (0, .ref (ad 5)), (1, .ref (ad ρ))]) hx hb dX7_useKnot_11 rfl hl (by decide) rfl (fun ls hl => ?_)
    refine lv_aload_nN hx hb dX7_useKnot_12 rfl (lv_at hl 0 rfl) ?_
    refine lv_aload_n hx hb dX7_useKnot_13 rfl (lv_at hl 2 rfl) ?_
    refine r_get hC hw rk5 in_X7_useKnot_5 ρ hst.1 hst.2 0 (by decide) lk_X7_useKnot_15 (v := .int 65) rfl dX7_useKnot_14 ?_
    refine lv_bipush (v := 66) hx hb dX7_useKnot_17 (by decide) ?_
    refine lv_icmp_ne (tgt := 27) hx hb dX7_useKnot_19 (by decide) (fun _ => ?_) (fun c_ => absurd c_ (by decide))
    refine lv_bipush (v := 11) hx hb dX7_useKnot_27 (by decide) ?_
    refine r_ki hw (r_runSN (rest := []) hC hw hw.1.2.1 lks_X7_useKnot lkz_X7_useKnot_94 (c_X8_misfitsN_11 l _ _) 2 gX7_useKnot_X8_misfits_n94 rfl rfl rfl (by decide +kernel) ⟨Nat.le_of_ble_eq_true rfl, Nat.le_of_ble_eq_true rfl⟩ rfl hl.1 rfl (Nat.le_of_ble_eq_true rfl) dX7_useKnot_29 ⟨Nat.le_of_ble_eq_true rfl, Nat.le_of_ble_eq_true rfl⟩) (fun r_6 u_7 H locs h_5 hw => ?_)
    subst h_5
    have w_8 : ¬ pWrong κ (sA κ 3 (aN xb)) 11 := fun h => h.1 n_4
    refine lv_if_eq (tgt := 37) hx hb dX7_useKnot_32 (by decide) (fun _ => ?_) (fun c_ => absurd (by decide) c_)
    refine lv_aload_n hx hb dX7_useKnot_37 rfl (lv_at hl 2 rfl) ?_
    refine r_get hC hw rk5 in_X7_useKnot_5 ρ hst.1 hst.2 0 (by decide) lk_X7_useKnot_15 (v := .int 65) rfl dX7_useKnot_38 ?_
    refine lv_bipush (v := 64) hx hb dX7_useKnot_41 (by decide) ?_
    refine lv_icmp_ne (tgt := 67) hx hb dX7_useKnot_43 (by decide) (fun _ => ?_) (fun c_ => absurd c_ (by decide))
    refine lv_aload_nN hx hb dX7_useKnot_67 rfl (lv_at hl 0 rfl) ?_
    refine lv_ifnonnullN hx hb dX7_useKnot_68 ?_
    refine lv_iconst (v := 1) hx hb dX7_useKnot_71 (by decide) ?_
    exact r_iret hC hr hlk hw κ rfl (doRf (κ := κ) (hd := hd) (th := th) (k := 65) (a := xa) (b := xb) (c := xc) ((if_neg w_8).trans (if_pos n_4)) (by decide)).symm (Nat.le_of_ble_eq_true rfl) (Nat.le_of_ble_eq_true rfl) dX7_useKnot_72
  · refine r_topv (y := .ref (ad (100 + 4 * (aN ((sA κ 3 (aN xb)) - 1))))) (by rw [gN_in (by assumption) (by decide)]; show va_rf ((rT (sA κ 3 (aN xb))).map ad) = _; rw [rT1 n_4]; rfl) ?_
    have hB_b := hX.2.1 xb (by assumption) n_4
    have h6_b : (aN ((sA κ 3 (aN xb)) - 1)) < 60 := Nat.lt_of_lt_of_le hB_b.2 hX.1
    have hl_b : (wX q ad κ τ).2.1 (100 + 4 * (aN ((sA κ 3 (aN xb)) - 1))) := thl hB_b.2
    have hc_b : (wX q ad κ τ).2.2 (100 + 4 * (aN ((sA κ 3 (aN xb)) - 1))) = .inr (6, fsT ad κ (aN ((sA κ 3 (aN xb)) - 1))) := thc h6_b
    have hk_b := hX.2.2.1 _ hB_b.2
    refine lv_astore_n (lv' := [(2, .ref (ad (100 + 4 * (aN ((sA κ 3 (aN xb)) - 1))))), (0, .ref (ad 5)), (1, .ref (ad ρ))]) hx hb dX7_useKnot_11 rfl hl (by decide) rfl (fun ls hl => ?_)
    refine lv_aload_n hx hb dX7_useKnot_12 rfl (lv_at hl 0 rfl) ?_
    refine lv_aload_n hx hb dX7_useKnot_13 rfl (lv_at hl 2 rfl) ?_
    refine r_get hC hw rk5 in_X7_useKnot_5 ρ hst.1 hst.2 0 (by decide) lk_X7_useKnot_15 (v := .int 65) rfl dX7_useKnot_14 ?_
    refine lv_bipush (v := 66) hx hb dX7_useKnot_17 (by decide) ?_
    refine lv_icmp_ne (tgt := 27) hx hb dX7_useKnot_19 (by decide) (fun _ => ?_) (fun c_ => absurd c_ (by decide))
    refine lv_bipush (v := 11) hx hb dX7_useKnot_27 (by decide) ?_
    refine r_ki hw (r_runSN (rest := []) hC hw hw.1.2.1 lks_X7_useKnot lkz_X7_useKnot_94 (c_X8_misfits_11 l _ _ (100 + 4 * (aN ((sA κ 3 (aN xb)) - 1))) hk_b.1 hl_b hc_b) 2 gX7_useKnot_X8_misfits_n94 rfl rfl rfl (by decide +kernel) ⟨Nat.le_of_ble_eq_true rfl, Nat.le_of_ble_eq_true rfl⟩ rfl hl.1 rfl (Nat.le_of_ble_eq_true rfl) dX7_useKnot_29 ⟨Nat.le_of_ble_eq_true rfl, Nat.le_of_ble_eq_true rfl⟩) (fun r_10 u_11 H locs h_9 hw => ?_)
    by_cases c_12 : pOf (sA κ 4 (aN ((sA κ 3 (aN xb)) - 1))) 11
    · rw [if_pos c_12] at h_9
      subst h_9
      have w_13 : ¬ pWrong κ (sA κ 3 (aN xb)) 11 := fun h => h.2 c_12
      refine lv_if_eq (tgt := 37) hx hb dX7_useKnot_32 (by decide) (fun _ => ?_) (fun c_ => absurd (by decide) c_)
      refine lv_aload_n hx hb dX7_useKnot_37 rfl (lv_at hl 2 rfl) ?_
      refine r_get hC hw rk5 in_X7_useKnot_5 ρ hst.1 hst.2 0 (by decide) lk_X7_useKnot_15 (v := .int 65) rfl dX7_useKnot_38 ?_
      refine lv_bipush (v := 64) hx hb dX7_useKnot_41 (by decide) ?_
      refine lv_icmp_ne (tgt := 67) hx hb dX7_useKnot_43 (by decide) (fun _ => ?_) (fun c_ => absurd c_ (by decide))
      refine lv_aload_n hx hb dX7_useKnot_67 rfl (lv_at hl 0 rfl) ?_
      refine lv_ifnonnull (tgt := 73) hx hb dX7_useKnot_68 (by decide) ?_
      refine lv_aload_n hx hb dX7_useKnot_73 rfl (lv_at hl 2 rfl) ?_
      refine r_get hC hw rk5 in_X7_useKnot_5 ρ hst.1 hst.2 0 (by decide) lk_X7_useKnot_15 (v := .int 65) rfl dX7_useKnot_74 ?_
      refine lv_tableOut (tgt := 224) hx hb dX7_useKnot_77 (by decide) (by decide) ?_
      refine lv_aload_n hx hb dX7_useKnot_224 rfl (lv_at hl 1 rfl) ?_
      refine r_get hC hw rk7 in_X7_useKnot_7 5 (wXl 5 (by decide)) wXc5 0 (by decide) lk_X7_useKnot_9 (v := .ref (ad 2)) rfl dX7_useKnot_225 ?_
      refine lv_aload_n hx hb dX7_useKnot_228 rfl (lv_at hl 2 rfl) ?_
      refine r_get hC hw rk5 in_X7_useKnot_5 ρ hst.1 hst.2 1 (by decide) lk_X7_useKnot_69 (v := .int xa) rfl dX7_useKnot_229 ?_
      refine lv_aload_n hx hb dX7_useKnot_232 rfl (lv_at hl 0 rfl) ?_
      refine lv_aload_n hx hb dX7_useKnot_233 rfl (lv_at hl 1 rfl) ?_
      refine r_get hC hw rk7 in_X7_useKnot_7 5 (wXl 5 (by decide)) wXc5 0 (by decide) lk_X7_useKnot_9 (v := .ref (ad 2)) rfl dX7_useKnot_234 ?_
      refine lv_aload_n hx hb dX7_useKnot_237 rfl (lv_at hl 2 rfl) ?_
      refine r_get hC hw rk5 in_X7_useKnot_5 ρ hst.1 hst.2 3 (by decide) lk_X7_useKnot_57 (v := .int xc) rfl dX7_useKnot_238 ?_
      refine r_ki hw (r_runV (rest := [.ref (ad (100 + 4 * (aN ((sA κ 3 (aN xb)) - 1)))), .int xa, .ref (ad 2)]) hC hw 2 (c_X3_getWord l _ _ 2 8 xc (wXl 2 (by decide)) wXc2 (wXl 8 (by decide)) wXc8) rk3 (wXl 2 (by decide)) wXc2 1 gX7_useKnot_X3_getWord rfl rfl rfl (by decide +kernel) ⟨Nat.le_of_ble_eq_true rfl, Nat.le_of_ble_eq_true rfl⟩ rfl hl.1 rfl (Nat.le_of_ble_eq_true rfl) dX7_useKnot_241 ⟨Nat.le_of_ble_eq_true rfl, Nat.le_of_ble_eq_true rfl⟩) (fun r_15 u_16 H locs h_14 hw => ?_)
      subst h_14
      refine r_topv (y := .int (sA κ 2 (aN xc))) (congrArg _ (gN_in (by assumption) (by decide))) ?_
      refine r_ki hw (r_runV (rest := [.int xa, .ref (ad 2)]) hC hw (100 + 4 * (aN ((sA κ 3 (aN xb)) - 1))) (c_X6_turn l _ _ (100 + 4 * (aN ((sA κ 3 (aN xb)) - 1))) (sA κ 2 (aN xc)) hl_b hc_b) rk6 hl_b hc_b 1 gX7_useKnot_X6_turn rfl rfl rfl (by decide +kernel) ⟨Nat.le_of_ble_eq_true rfl, Nat.le_of_ble_eq_true rfl⟩ rfl hl.1 rfl (Nat.le_of_ble_eq_true rfl) dX7_useKnot_244 ⟨Nat.le_of_ble_eq_true rfl, Nat.le_of_ble_eq_true rfl⟩) (fun r_18 u_19 H locs h_17 hw => ?_)
      subst h_17
      refine r_kv hw (r_runV (rest := []) hC hw 2 (c_X3_setWord l _ _ 2 8 xa (pTurn (sA κ 4 (aN ((sA κ 3 (aN xb)) - 1))) (sA κ 7 (aN ((sA κ 3 (aN xb)) - 1))) (sA κ 2 (aN xc))) (by assumption) (wXl 2 (by decide)) wXc2 (wXl 8 (by decide)) wXc8) rk3 (wXl 2 (by decide)) wXc2 2 gX7_useKnot_X3_setWord rfl rfl rfl (by decide +kernel) ⟨Nat.le_of_ble_eq_true rfl, Nat.le_of_ble_eq_true rfl⟩ rfl hl.1 rfl (Nat.le_of_ble_eq_true rfl) dX7_useKnot_247 ⟨Nat.le_of_ble_eq_true rfl, Nat.le_of_ble_eq_true rfl⟩) (fun u_22 H locs h_20 hw => ?_)
      replace hw := xS_words hw
      refine lv_iconst (v := 0) hx hb dX7_useKnot_250 (by decide) ?_
      exact r_iret hC hr hlk hw (uA κ 2 (aN xa) (pTurn (sA κ 4 (aN ((sA κ 3 (aN xb)) - 1))) (sA κ 7 (aN ((sA κ 3 (aN xb)) - 1))) (sA κ 2 (aN xc)))) rfl (doR0 (κ := κ) (hd := hd) (th := th) (k := 65) (a := xa) (b := xb) (c := xc) ((if_neg w_13).trans (if_neg n_4))).symm (Nat.le_of_ble_eq_true rfl) (Nat.le_of_ble_eq_true rfl) dX7_useKnot_251
    · rw [if_neg c_12] at h_9
      subst h_9
      have w_23 : pWrong κ (sA κ 3 (aN xb)) 11 := ⟨n_4, c_12⟩
      refine lv_if_eq (tgt := 37) hx hb dX7_useKnot_32 (by decide) (fun c_ => absurd c_ (by decide)) (fun _ => ?_)
      refine lv_iconst (v := 4) hx hb dX7_useKnot_35 (by decide) ?_
      exact r_iret hC hr hlk hw κ rfl (doRf (κ := κ) (hd := hd) (th := th) (k := 65) (a := xa) (b := xb) (c := xc) (if_pos w_23) (by decide)).symm (Nat.le_of_ble_eq_true rfl) (Nat.le_of_ble_eq_true rfl) dX7_useKnot_36

set_option maxHeartbeats 4000000 in
set_option maxRecDepth 100000 in
theorem c_X7_useKnot_66 (l : Launch) {D : va_G} {q : Nat → ClassId} {ad : Nat → Nat} {κ : KS} {τ : TAU} (sz : Nat) (ρ : Nat) (xa xb xc hd th : Int32) (hst : stepAt q ad κ τ ρ 66 xa xb xc) (hs : okStep 66 xa xb xc)(hX : WFx κ) (hN : nnOp κ 66 xa xb xc) : Met l yX7_useKnot wsX7_useKnot (rmz 2 42) (va_Pc [.ref (ad 5), .ref (ad ρ)] (rPre D q (wX q ad κ τ) sz)) (va_Qi (fun (r : Int32) (u : KS) => (r, u) = doR κ hd th 66 xa xb xc) (fun (u : KS) tt => rPo D (rA (wX q ad κ τ) sz) (wX q ad u τ) tt) (rA (wX q ad κ τ) sz)) 0 0 (rA (wX q ad κ τ) sz) := by
  have hi0 : vp_in xa 8 := hs.1
  have hi1 : vp_in xb 8 := hs.2.1
  have hi2 : vp_in xc 8 := hs.2.2
  refine r_start (cc := cX7_useKnot) (maxL := 3) (ret := (some .int)) (by decide) rfl (Nat.le_of_ble_eq_true rfl) ?_
  intro p e s m below meth c ls hC hr hlk hnm hsz hw hl
  have hx := hC.1
  have hb := hC.2.1
  have hl : lv_has ls 3 [(0, .ref (ad 5)), (1, .ref (ad ρ))] := hl
  refine lv_aload_n hx hb dX7_useKnot_0 rfl (lv_at hl 0 rfl) ?_
  refine r_get hC hw rk7 in_X7_useKnot_7 5 (wXl 5 (by decide)) wXc5 0 (by decide) lk_X7_useKnot_9 (v := .ref (ad 2)) rfl dX7_useKnot_1 ?_
  refine lv_aload_n hx hb dX7_useKnot_4 rfl (lv_at hl 1 rfl) ?_
  refine r_get hC hw rk5 in_X7_useKnot_5 ρ hst.1 hst.2 2 (by decide) lk_X7_useKnot_74 (v := .int xb) rfl dX7_useKnot_5 ?_
  refine r_kq hw (r_runV (rest := []) hC hw 2 (c_X3_getThing l _ _ 2 12 xb (wXl 2 (by decide)) wXc2 (wXl 12 (by decide)) wXc12) rk3 (wXl 2 (by decide)) wXc2 1 gX7_useKnot_X3_getThing rfl rfl rfl (by decide +kernel) ⟨Nat.le_of_ble_eq_true rfl, Nat.le_of_ble_eq_true rfl⟩ rfl hl.1 rfl (Nat.le_of_ble_eq_true rfl) dX7_useKnot_8 ⟨Nat.le_of_ble_eq_true rfl, Nat.le_of_ble_eq_true rfl⟩) (fun r_2 u_3 H locs h_1 hw => ?_)
  subst h_1
  by_cases n_4 : (sA κ 3 (aN xb)) = 0
  · refine r_topv (y := .null) (by rw [gN_in (by assumption) (by decide)]; show va_rf ((rT (sA κ 3 (aN xb))).map ad) = _; rw [rT0 n_4]; rfl) ?_
    refine lv_astore_nN (lv' := [(2, .null), (0, .ref (ad 5)), (1, .ref (ad ρ))]) hx hb dX7_useKnot_11 rfl hl (by decide) rfl (fun ls hl => ?_)
    refine lv_aload_nN hx hb dX7_useKnot_12 rfl (lv_at hl 0 rfl) ?_
    refine lv_aload_n hx hb dX7_useKnot_13 rfl (lv_at hl 2 rfl) ?_
    refine r_get hC hw rk5 in_X7_useKnot_5 ρ hst.1 hst.2 0 (by decide) lk_X7_useKnot_15 (v := .int 66) rfl dX7_useKnot_14 ?_
    refine lv_bipush (v := 66) hx hb dX7_useKnot_17 (by decide) ?_
    refine lv_icmp_ne (tgt := 27) hx hb dX7_useKnot_19 (by decide) (fun c_ => absurd (by decide) c_) (fun _ => ?_)
    refine lv_bipush (v := 16) hx hb dX7_useKnot_22 (by decide) ?_
    refine lv_goto (tgt := 29) hx hb dX7_useKnot_24 (by decide) ?_
    refine r_ki hw (r_runSN (rest := []) hC hw hw.1.2.1 lks_X7_useKnot lkz_X7_useKnot_94 (c_X8_misfitsN_16 l _ _) 2 gX7_useKnot_X8_misfits_n94 rfl rfl rfl (by decide +kernel) ⟨Nat.le_of_ble_eq_true rfl, Nat.le_of_ble_eq_true rfl⟩ rfl hl.1 rfl (Nat.le_of_ble_eq_true rfl) dX7_useKnot_29 ⟨Nat.le_of_ble_eq_true rfl, Nat.le_of_ble_eq_true rfl⟩) (fun r_6 u_7 H locs h_5 hw => ?_)
    subst h_5
    have w_8 : ¬ pWrong κ (sA κ 3 (aN xb)) 16 := fun h => h.1 n_4
    refine lv_if_eq (tgt := 37) hx hb dX7_useKnot_32 (by decide) (fun _ => ?_) (fun c_ => absurd (by decide) c_)
    refine lv_aload_n hx hb dX7_useKnot_37 rfl (lv_at hl 2 rfl) ?_
    refine r_get hC hw rk5 in_X7_useKnot_5 ρ hst.1 hst.2 0 (by decide) lk_X7_useKnot_15 (v := .int 66) rfl dX7_useKnot_38 ?_
    refine lv_bipush (v := 64) hx hb dX7_useKnot_41 (by decide) ?_
    refine lv_icmp_ne (tgt := 67) hx hb dX7_useKnot_43 (by decide) (fun _ => ?_) (fun c_ => absurd c_ (by decide))
    refine lv_aload_nN hx hb dX7_useKnot_67 rfl (lv_at hl 0 rfl) ?_
    refine lv_ifnonnullN hx hb dX7_useKnot_68 ?_
    refine lv_iconst (v := 1) hx hb dX7_useKnot_71 (by decide) ?_
    exact r_iret hC hr hlk hw κ rfl (doRf (κ := κ) (hd := hd) (th := th) (k := 66) (a := xa) (b := xb) (c := xc) ((if_neg w_8).trans (if_pos n_4)) (by decide)).symm (Nat.le_of_ble_eq_true rfl) (Nat.le_of_ble_eq_true rfl) dX7_useKnot_72
  · refine r_topv (y := .ref (ad (100 + 4 * (aN ((sA κ 3 (aN xb)) - 1))))) (by rw [gN_in (by assumption) (by decide)]; show va_rf ((rT (sA κ 3 (aN xb))).map ad) = _; rw [rT1 n_4]; rfl) ?_
    have hB_b := hX.2.1 xb (by assumption) n_4
    have h6_b : (aN ((sA κ 3 (aN xb)) - 1)) < 60 := Nat.lt_of_lt_of_le hB_b.2 hX.1
    have hl_b : (wX q ad κ τ).2.1 (100 + 4 * (aN ((sA κ 3 (aN xb)) - 1))) := thl hB_b.2
    have hc_b : (wX q ad κ τ).2.2 (100 + 4 * (aN ((sA κ 3 (aN xb)) - 1))) = .inr (6, fsT ad κ (aN ((sA κ 3 (aN xb)) - 1))) := thc h6_b
    have hk_b := hX.2.2.1 _ hB_b.2
    refine lv_astore_n (lv' := [(2, .ref (ad (100 + 4 * (aN ((sA κ 3 (aN xb)) - 1))))), (0, .ref (ad 5)), (1, .ref (ad ρ))]) hx hb dX7_useKnot_11 rfl hl (by decide) rfl (fun ls hl => ?_)
    refine lv_aload_n hx hb dX7_useKnot_12 rfl (lv_at hl 0 rfl) ?_
    refine lv_aload_n hx hb dX7_useKnot_13 rfl (lv_at hl 2 rfl) ?_
    refine r_get hC hw rk5 in_X7_useKnot_5 ρ hst.1 hst.2 0 (by decide) lk_X7_useKnot_15 (v := .int 66) rfl dX7_useKnot_14 ?_
    refine lv_bipush (v := 66) hx hb dX7_useKnot_17 (by decide) ?_
    refine lv_icmp_ne (tgt := 27) hx hb dX7_useKnot_19 (by decide) (fun c_ => absurd (by decide) c_) (fun _ => ?_)
    refine lv_bipush (v := 16) hx hb dX7_useKnot_22 (by decide) ?_
    refine lv_goto (tgt := 29) hx hb dX7_useKnot_24 (by decide) ?_
    refine r_ki hw (r_runSN (rest := []) hC hw hw.1.2.1 lks_X7_useKnot lkz_X7_useKnot_94 (c_X8_misfits_16 l _ _ (100 + 4 * (aN ((sA κ 3 (aN xb)) - 1))) hk_b.1 hl_b hc_b) 2 gX7_useKnot_X8_misfits_n94 rfl rfl rfl (by decide +kernel) ⟨Nat.le_of_ble_eq_true rfl, Nat.le_of_ble_eq_true rfl⟩ rfl hl.1 rfl (Nat.le_of_ble_eq_true rfl) dX7_useKnot_29 ⟨Nat.le_of_ble_eq_true rfl, Nat.le_of_ble_eq_true rfl⟩) (fun r_10 u_11 H locs h_9 hw => ?_)
    by_cases c_12 : pOf (sA κ 4 (aN ((sA κ 3 (aN xb)) - 1))) 16
    · rw [if_pos c_12] at h_9
      subst h_9
      have w_13 : ¬ pWrong κ (sA κ 3 (aN xb)) 16 := fun h => h.2 c_12
      refine lv_if_eq (tgt := 37) hx hb dX7_useKnot_32 (by decide) (fun _ => ?_) (fun c_ => absurd (by decide) c_)
      refine lv_aload_n hx hb dX7_useKnot_37 rfl (lv_at hl 2 rfl) ?_
      refine r_get hC hw rk5 in_X7_useKnot_5 ρ hst.1 hst.2 0 (by decide) lk_X7_useKnot_15 (v := .int 66) rfl dX7_useKnot_38 ?_
      refine lv_bipush (v := 64) hx hb dX7_useKnot_41 (by decide) ?_
      refine lv_icmp_ne (tgt := 67) hx hb dX7_useKnot_43 (by decide) (fun _ => ?_) (fun c_ => absurd c_ (by decide))
      refine lv_aload_n hx hb dX7_useKnot_67 rfl (lv_at hl 0 rfl) ?_
      refine lv_ifnonnull (tgt := 73) hx hb dX7_useKnot_68 (by decide) ?_
      refine lv_aload_n hx hb dX7_useKnot_73 rfl (lv_at hl 2 rfl) ?_
      refine r_get hC hw rk5 in_X7_useKnot_5 ρ hst.1 hst.2 0 (by decide) lk_X7_useKnot_15 (v := .int 66) rfl dX7_useKnot_74 ?_
      refine lv_tableOut (tgt := 224) hx hb dX7_useKnot_77 (by decide) (by decide) ?_
      refine lv_aload_n hx hb dX7_useKnot_224 rfl (lv_at hl 1 rfl) ?_
      refine r_get hC hw rk7 in_X7_useKnot_7 5 (wXl 5 (by decide)) wXc5 0 (by decide) lk_X7_useKnot_9 (v := .ref (ad 2)) rfl dX7_useKnot_225 ?_
      refine lv_aload_n hx hb dX7_useKnot_228 rfl (lv_at hl 2 rfl) ?_
      refine r_get hC hw rk5 in_X7_useKnot_5 ρ hst.1 hst.2 1 (by decide) lk_X7_useKnot_69 (v := .int xa) rfl dX7_useKnot_229 ?_
      refine lv_aload_n hx hb dX7_useKnot_232 rfl (lv_at hl 0 rfl) ?_
      refine lv_aload_n hx hb dX7_useKnot_233 rfl (lv_at hl 1 rfl) ?_
      refine r_get hC hw rk7 in_X7_useKnot_7 5 (wXl 5 (by decide)) wXc5 0 (by decide) lk_X7_useKnot_9 (v := .ref (ad 2)) rfl dX7_useKnot_234 ?_
      refine lv_aload_n hx hb dX7_useKnot_237 rfl (lv_at hl 2 rfl) ?_
      refine r_get hC hw rk5 in_X7_useKnot_5 ρ hst.1 hst.2 3 (by decide) lk_X7_useKnot_57 (v := .int xc) rfl dX7_useKnot_238 ?_
      refine r_ki hw (r_runV (rest := [.ref (ad (100 + 4 * (aN ((sA κ 3 (aN xb)) - 1)))), .int xa, .ref (ad 2)]) hC hw 2 (c_X3_getWord l _ _ 2 8 xc (wXl 2 (by decide)) wXc2 (wXl 8 (by decide)) wXc8) rk3 (wXl 2 (by decide)) wXc2 1 gX7_useKnot_X3_getWord rfl rfl rfl (by decide +kernel) ⟨Nat.le_of_ble_eq_true rfl, Nat.le_of_ble_eq_true rfl⟩ rfl hl.1 rfl (Nat.le_of_ble_eq_true rfl) dX7_useKnot_241 ⟨Nat.le_of_ble_eq_true rfl, Nat.le_of_ble_eq_true rfl⟩) (fun r_15 u_16 H locs h_14 hw => ?_)
      subst h_14
      refine r_topv (y := .int (sA κ 2 (aN xc))) (congrArg _ (gN_in (by assumption) (by decide))) ?_
      refine r_ki hw (r_runV (rest := [.int xa, .ref (ad 2)]) hC hw (100 + 4 * (aN ((sA κ 3 (aN xb)) - 1))) (c_X6_turn l _ _ (100 + 4 * (aN ((sA κ 3 (aN xb)) - 1))) (sA κ 2 (aN xc)) hl_b hc_b) rk6 hl_b hc_b 1 gX7_useKnot_X6_turn rfl rfl rfl (by decide +kernel) ⟨Nat.le_of_ble_eq_true rfl, Nat.le_of_ble_eq_true rfl⟩ rfl hl.1 rfl (Nat.le_of_ble_eq_true rfl) dX7_useKnot_244 ⟨Nat.le_of_ble_eq_true rfl, Nat.le_of_ble_eq_true rfl⟩) (fun r_18 u_19 H locs h_17 hw => ?_)
      subst h_17
      refine r_kv hw (r_runV (rest := []) hC hw 2 (c_X3_setWord l _ _ 2 8 xa (pTurn (sA κ 4 (aN ((sA κ 3 (aN xb)) - 1))) (sA κ 7 (aN ((sA κ 3 (aN xb)) - 1))) (sA κ 2 (aN xc))) (by assumption) (wXl 2 (by decide)) wXc2 (wXl 8 (by decide)) wXc8) rk3 (wXl 2 (by decide)) wXc2 2 gX7_useKnot_X3_setWord rfl rfl rfl (by decide +kernel) ⟨Nat.le_of_ble_eq_true rfl, Nat.le_of_ble_eq_true rfl⟩ rfl hl.1 rfl (Nat.le_of_ble_eq_true rfl) dX7_useKnot_247 ⟨Nat.le_of_ble_eq_true rfl, Nat.le_of_ble_eq_true rfl⟩) (fun u_22 H locs h_20 hw => ?_)
      replace hw := xS_words hw
      refine lv_iconst (v := 0) hx hb dX7_useKnot_250 (by decide) ?_
      exact r_iret hC hr hlk hw (uA κ 2 (aN xa) (pTurn (sA κ 4 (aN ((sA κ 3 (aN xb)) - 1))) (sA κ 7 (aN ((sA κ 3 (aN xb)) - 1))) (sA κ 2 (aN xc)))) rfl (doR0 (κ := κ) (hd := hd) (th := th) (k := 66) (a := xa) (b := xb) (c := xc) ((if_neg w_13).trans (if_neg n_4))).symm (Nat.le_of_ble_eq_true rfl) (Nat.le_of_ble_eq_true rfl) dX7_useKnot_251
    · rw [if_neg c_12] at h_9
      subst h_9
      have w_23 : pWrong κ (sA κ 3 (aN xb)) 16 := ⟨n_4, c_12⟩
      refine lv_if_eq (tgt := 37) hx hb dX7_useKnot_32 (by decide) (fun c_ => absurd c_ (by decide)) (fun _ => ?_)
      refine lv_iconst (v := 4) hx hb dX7_useKnot_35 (by decide) ?_
      exact r_iret hC hr hlk hw κ rfl (doRf (κ := κ) (hd := hd) (th := th) (k := 66) (a := xa) (b := xb) (c := xc) (if_pos w_23) (by decide)).symm (Nat.le_of_ble_eq_true rfl) (Nat.le_of_ble_eq_true rfl) dX7_useKnot_36

set_option maxHeartbeats 4000000 in
set_option maxRecDepth 100000 in
theorem c_X7_useFault_70 (l : Launch) {D : va_G} {q : Nat → ClassId} {ad : Nat → Nat} {κ : KS} {τ : TAU} (sz : Nat) (ρ : Nat) (xa xb xc hd th : Int32) (hst : stepAt q ad κ τ ρ 70 xa xb xc) (hs : okStep 70 xa xb xc)(hX : WFx κ) (hN : nnOp κ 70 xa xb xc) : Met l yX7_useFault wsX7_useFault (rmz 1 22) (va_Pc [.ref (ad 5), .ref (ad ρ)] (rPre D q (wX q ad κ τ) sz)) (va_Qi (fun (r : Int32) (u : KS) => (r, u) = doR κ hd th 70 xa xb xc) (fun (u : KS) tt => rPo D (rA (wX q ad κ τ) sz) (wX q ad u τ) tt) (rA (wX q ad κ τ) sz)) 0 0 (rA (wX q ad κ τ) sz) := by
  have hi0 : vp_in xa 8 := hs.1
  have hi1 : vp_in xb 8 := hs.2.1
  refine r_start (cc := cX7_useFault) (maxL := 3) (ret := (some .int)) (by decide) rfl (Nat.le_of_ble_eq_true rfl) ?_
  intro p e s m below meth c ls hC hr hlk hnm hsz hw hl
  have hx := hC.1
  have hb := hC.2.1
  have hl : lv_has ls 3 [(0, .ref (ad 5)), (1, .ref (ad ρ))] := hl
  refine lv_aload_n hx hb dX7_useFault_0 rfl (lv_at hl 0 rfl) ?_
  refine r_get hC hw rk7 in_X7_useFault_7 5 (wXl 5 (by decide)) wXc5 0 (by decide) lk_X7_useFault_9 (v := .ref (ad 2)) rfl dX7_useFault_1 ?_
  refine lv_aload_n hx hb dX7_useFault_4 rfl (lv_at hl 1 rfl) ?_
  refine r_get hC hw rk5 in_X7_useFault_5 ρ hst.1 hst.2 2 (by decide) lk_X7_useFault_74 (v := .int xb) rfl dX7_useFault_5 ?_
  refine r_kq hw (r_runV (rest := []) hC hw 2 (c_X3_getThing l _ _ 2 12 xb (wXl 2 (by decide)) wXc2 (wXl 12 (by decide)) wXc12) rk3 (wXl 2 (by decide)) wXc2 1 gX7_useFault_X3_getThing rfl rfl rfl (by decide +kernel) ⟨Nat.le_of_ble_eq_true rfl, Nat.le_of_ble_eq_true rfl⟩ rfl hl.1 rfl (Nat.le_of_ble_eq_true rfl) dX7_useFault_8 ⟨Nat.le_of_ble_eq_true rfl, Nat.le_of_ble_eq_true rfl⟩) (fun r_2 u_3 H locs h_1 hw => ?_)
  subst h_1
  by_cases n_4 : (sA κ 3 (aN xb)) = 0
  · refine r_topv (y := .null) (by rw [gN_in (by assumption) (by decide)]; show va_rf ((rT (sA κ 3 (aN xb))).map ad) = _; rw [rT0 n_4]; rfl) ?_
    refine lv_astore_nN (lv' := [(2, .null), (0, .ref (ad 5)), (1, .ref (ad ρ))]) hx hb dX7_useFault_11 rfl hl (by decide) rfl (fun ls hl => ?_)
    refine lv_aload_nN hx hb dX7_useFault_12 rfl (lv_at hl 0 rfl) ?_
    refine lv_ifnonnullN hx hb dX7_useFault_13 ?_
    refine lv_iconst (v := 1) hx hb dX7_useFault_16 (by decide) ?_
    exact r_iret hC hr hlk hw κ rfl (doRf (κ := κ) (hd := hd) (th := th) (k := 70) (a := xa) (b := xb) (c := xc) (if_pos n_4) (by decide)).symm (Nat.le_of_ble_eq_true rfl) (Nat.le_of_ble_eq_true rfl) dX7_useFault_17
  · refine r_topv (y := .ref (ad (100 + 4 * (aN ((sA κ 3 (aN xb)) - 1))))) (by rw [gN_in (by assumption) (by decide)]; show va_rf ((rT (sA κ 3 (aN xb))).map ad) = _; rw [rT1 n_4]; rfl) ?_
    have hB_b := hX.2.1 xb (by assumption) n_4
    have h6_b : (aN ((sA κ 3 (aN xb)) - 1)) < 60 := Nat.lt_of_lt_of_le hB_b.2 hX.1
    have hl_b : (wX q ad κ τ).2.1 (100 + 4 * (aN ((sA κ 3 (aN xb)) - 1))) := thl hB_b.2
    have hc_b : (wX q ad κ τ).2.2 (100 + 4 * (aN ((sA κ 3 (aN xb)) - 1))) = .inr (6, fsT ad κ (aN ((sA κ 3 (aN xb)) - 1))) := thc h6_b
    have hk_b := hX.2.2.1 _ hB_b.2
    refine lv_astore_n (lv' := [(2, .ref (ad (100 + 4 * (aN ((sA κ 3 (aN xb)) - 1))))), (0, .ref (ad 5)), (1, .ref (ad ρ))]) hx hb dX7_useFault_11 rfl hl (by decide) rfl (fun ls hl => ?_)
    refine lv_aload_n hx hb dX7_useFault_12 rfl (lv_at hl 0 rfl) ?_
    refine lv_ifnonnull (tgt := 18) hx hb dX7_useFault_13 (by decide) ?_
    refine lv_aload_n hx hb dX7_useFault_18 rfl (lv_at hl 0 rfl) ?_
    refine lv_bipush (v := 15) hx hb dX7_useFault_19 (by decide) ?_
    refine r_ki hw (r_runV (rest := []) hC hw (100 + 4 * (aN ((sA κ 3 (aN xb)) - 1))) (c_X6_isOf_15 l _ _ (100 + 4 * (aN ((sA κ 3 (aN xb)) - 1))) hk_b.1 hl_b hc_b) rk6 hl_b hc_b 1 gX7_useFault_X6_isOf rfl rfl rfl (by decide +kernel) ⟨Nat.le_of_ble_eq_true rfl, Nat.le_of_ble_eq_true rfl⟩ rfl hl.1 rfl (Nat.le_of_ble_eq_true rfl) dX7_useFault_21 ⟨Nat.le_of_ble_eq_true rfl, Nat.le_of_ble_eq_true rfl⟩) (fun r_6 u_7 H locs h_5 hw => ?_)
    by_cases c_8 : pOf (sA κ 4 (aN ((sA κ 3 (aN xb)) - 1))) 15
    · rw [if_pos c_8] at h_5
      subst h_5
      have w_9 : ¬ pWrong κ (sA κ 3 (aN xb)) 15 := fun h => h.2 c_8
      refine lv_if_ne (tgt := 29) hx hb dX7_useFault_24 (by decide) (fun _ => ?_) (fun c_ => absurd c_ (by decide))
      refine lv_aload_n hx hb dX7_useFault_29 rfl (lv_at hl 2 rfl) ?_
      refine r_get hC hw rk5 in_X7_useFault_5 ρ hst.1 hst.2 0 (by decide) lk_X7_useFault_15 (v := .int 70) rfl dX7_useFault_30 ?_
      refine lv_bipush (v := 70) hx hb dX7_useFault_33 (by decide) ?_
      refine lv_icmp_ne (tgt := 56) hx hb dX7_useFault_35 (by decide) (fun c_ => absurd (by decide) c_) (fun _ => ?_)
      refine lv_aload_n hx hb dX7_useFault_38 rfl (lv_at hl 1 rfl) ?_
      refine r_get hC hw rk7 in_X7_useFault_7 5 (wXl 5 (by decide)) wXc5 0 (by decide) lk_X7_useFault_9 (v := .ref (ad 2)) rfl dX7_useFault_39 ?_
      refine lv_aload_n hx hb dX7_useFault_42 rfl (lv_at hl 2 rfl) ?_
      refine r_get hC hw rk5 in_X7_useFault_5 ρ hst.1 hst.2 1 (by decide) lk_X7_useFault_69 (v := .int xa) rfl dX7_useFault_43 ?_
      refine lv_aload_n hx hb dX7_useFault_46 rfl (lv_at hl 0 rfl) ?_
      refine r_get hC hw rk6 in_X7_useFault_6 (100 + 4 * (aN ((sA κ 3 (aN xb)) - 1))) hl_b hc_b 5 (by decide) lk_X7_useFault_87 (v := .int (sA κ 7 (aN ((sA κ 3 (aN xb)) - 1)))) rfl dX7_useFault_47 ?_
      refine r_kv hw (r_runV (rest := []) hC hw 2 (c_X3_setWord l _ _ 2 8 xa (sA κ 7 (aN ((sA κ 3 (aN xb)) - 1))) (by assumption) (wXl 2 (by decide)) wXc2 (wXl 8 (by decide)) wXc8) rk3 (wXl 2 (by decide)) wXc2 2 gX7_useFault_X3_setWord rfl rfl rfl (by decide +kernel) ⟨Nat.le_of_ble_eq_true rfl, Nat.le_of_ble_eq_true rfl⟩ rfl hl.1 rfl (Nat.le_of_ble_eq_true rfl) dX7_useFault_50 ⟨Nat.le_of_ble_eq_true rfl, Nat.le_of_ble_eq_true rfl⟩) (fun u_12 H locs h_10 hw => ?_)
      replace hw := xS_words hw
      refine lv_goto (tgt := 71) hx hb dX7_useFault_53 (by decide) ?_
      refine lv_iconst (v := 0) hx hb dX7_useFault_71 (by decide) ?_
      exact r_iret hC hr hlk hw (uA κ 2 (aN xa) (sA κ 7 (aN ((sA κ 3 (aN xb)) - 1)))) rfl (doR0 (κ := κ) (hd := hd) (th := th) (k := 70) (a := xa) (b := xb) (c := xc) ((if_neg n_4).trans (if_neg w_9))).symm (Nat.le_of_ble_eq_true rfl) (Nat.le_of_ble_eq_true rfl) dX7_useFault_72
    · rw [if_neg c_8] at h_5
      subst h_5
      have w_13 : pWrong κ (sA κ 3 (aN xb)) 15 := ⟨n_4, c_8⟩
      refine lv_if_ne (tgt := 29) hx hb dX7_useFault_24 (by decide) (fun c_ => absurd (by decide) c_) (fun _ => ?_)
      refine lv_iconst (v := 4) hx hb dX7_useFault_27 (by decide) ?_
      exact r_iret hC hr hlk hw κ rfl (doRf (κ := κ) (hd := hd) (th := th) (k := 70) (a := xa) (b := xb) (c := xc) ((if_neg n_4).trans (if_pos w_13)) (by decide)).symm (Nat.le_of_ble_eq_true rfl) (Nat.le_of_ble_eq_true rfl) dX7_useFault_28

set_option maxHeartbeats 4000000 in
set_option maxRecDepth 100000 in
theorem c_X7_useFault_71 (l : Launch) {D : va_G} {q : Nat → ClassId} {ad : Nat → Nat} {κ : KS} {τ : TAU} (sz : Nat) (ρ : Nat) (xa xb xc hd th : Int32) (hst : stepAt q ad κ τ ρ 71 xa xb xc) (hs : okStep 71 xa xb xc)(hX : WFx κ) (hN : nnOp κ 71 xa xb xc) : Met l yX7_useFault wsX7_useFault (rmz 1 22) (va_Pc [.ref (ad 5), .ref (ad ρ)] (rPre D q (wX q ad κ τ) sz)) (va_Qi (fun (r : Int32) (u : KS) => (r, u) = doR κ hd th 71 xa xb xc) (fun (u : KS) tt => rPo D (rA (wX q ad κ τ) sz) (wX q ad u τ) tt) (rA (wX q ad κ τ) sz)) 0 0 (rA (wX q ad κ τ) sz) := by
  have hi0 : vp_in xa 8 := hs.1
  have hi1 : vp_in xb 8 := hs.2.1
  refine r_start (cc := cX7_useFault) (maxL := 3) (ret := (some .int)) (by decide) rfl (Nat.le_of_ble_eq_true rfl) ?_
  intro p e s m below meth c ls hC hr hlk hnm hsz hw hl
  have hx := hC.1
  have hb := hC.2.1
  have hl : lv_has ls 3 [(0, .ref (ad 5)), (1, .ref (ad ρ))] := hl
  refine lv_aload_n hx hb dX7_useFault_0 rfl (lv_at hl 0 rfl) ?_
  refine r_get hC hw rk7 in_X7_useFault_7 5 (wXl 5 (by decide)) wXc5 0 (by decide) lk_X7_useFault_9 (v := .ref (ad 2)) rfl dX7_useFault_1 ?_
  refine lv_aload_n hx hb dX7_useFault_4 rfl (lv_at hl 1 rfl) ?_
  refine r_get hC hw rk5 in_X7_useFault_5 ρ hst.1 hst.2 2 (by decide) lk_X7_useFault_74 (v := .int xb) rfl dX7_useFault_5 ?_
  refine r_kq hw (r_runV (rest := []) hC hw 2 (c_X3_getThing l _ _ 2 12 xb (wXl 2 (by decide)) wXc2 (wXl 12 (by decide)) wXc12) rk3 (wXl 2 (by decide)) wXc2 1 gX7_useFault_X3_getThing rfl rfl rfl (by decide +kernel) ⟨Nat.le_of_ble_eq_true rfl, Nat.le_of_ble_eq_true rfl⟩ rfl hl.1 rfl (Nat.le_of_ble_eq_true rfl) dX7_useFault_8 ⟨Nat.le_of_ble_eq_true rfl, Nat.le_of_ble_eq_true rfl⟩) (fun r_2 u_3 H locs h_1 hw => ?_)
  subst h_1
  by_cases n_4 : (sA κ 3 (aN xb)) = 0
  · refine r_topv (y := .null) (by rw [gN_in (by assumption) (by decide)]; show va_rf ((rT (sA κ 3 (aN xb))).map ad) = _; rw [rT0 n_4]; rfl) ?_
    refine lv_astore_nN (lv' := [(2, .null), (0, .ref (ad 5)), (1, .ref (ad ρ))]) hx hb dX7_useFault_11 rfl hl (by decide) rfl (fun ls hl => ?_)
    refine lv_aload_nN hx hb dX7_useFault_12 rfl (lv_at hl 0 rfl) ?_
    refine lv_ifnonnullN hx hb dX7_useFault_13 ?_
    refine lv_iconst (v := 1) hx hb dX7_useFault_16 (by decide) ?_
    exact r_iret hC hr hlk hw κ rfl (doRf (κ := κ) (hd := hd) (th := th) (k := 71) (a := xa) (b := xb) (c := xc) (if_pos n_4) (by decide)).symm (Nat.le_of_ble_eq_true rfl) (Nat.le_of_ble_eq_true rfl) dX7_useFault_17
  · refine r_topv (y := .ref (ad (100 + 4 * (aN ((sA κ 3 (aN xb)) - 1))))) (by rw [gN_in (by assumption) (by decide)]; show va_rf ((rT (sA κ 3 (aN xb))).map ad) = _; rw [rT1 n_4]; rfl) ?_
    have hB_b := hX.2.1 xb (by assumption) n_4
    have h6_b : (aN ((sA κ 3 (aN xb)) - 1)) < 60 := Nat.lt_of_lt_of_le hB_b.2 hX.1
    have hl_b : (wX q ad κ τ).2.1 (100 + 4 * (aN ((sA κ 3 (aN xb)) - 1))) := thl hB_b.2
    have hc_b : (wX q ad κ τ).2.2 (100 + 4 * (aN ((sA κ 3 (aN xb)) - 1))) = .inr (6, fsT ad κ (aN ((sA κ 3 (aN xb)) - 1))) := thc h6_b
    have hk_b := hX.2.2.1 _ hB_b.2
    refine lv_astore_n (lv' := [(2, .ref (ad (100 + 4 * (aN ((sA κ 3 (aN xb)) - 1))))), (0, .ref (ad 5)), (1, .ref (ad ρ))]) hx hb dX7_useFault_11 rfl hl (by decide) rfl (fun ls hl => ?_)
    refine lv_aload_n hx hb dX7_useFault_12 rfl (lv_at hl 0 rfl) ?_
    refine lv_ifnonnull (tgt := 18) hx hb dX7_useFault_13 (by decide) ?_
    refine lv_aload_n hx hb dX7_useFault_18 rfl (lv_at hl 0 rfl) ?_
    refine lv_bipush (v := 15) hx hb dX7_useFault_19 (by decide) ?_
    refine r_ki hw (r_runV (rest := []) hC hw (100 + 4 * (aN ((sA κ 3 (aN xb)) - 1))) (c_X6_isOf_15 l _ _ (100 + 4 * (aN ((sA κ 3 (aN xb)) - 1))) hk_b.1 hl_b hc_b) rk6 hl_b hc_b 1 gX7_useFault_X6_isOf rfl rfl rfl (by decide +kernel) ⟨Nat.le_of_ble_eq_true rfl, Nat.le_of_ble_eq_true rfl⟩ rfl hl.1 rfl (Nat.le_of_ble_eq_true rfl) dX7_useFault_21 ⟨Nat.le_of_ble_eq_true rfl, Nat.le_of_ble_eq_true rfl⟩) (fun r_6 u_7 H locs h_5 hw => ?_)
    by_cases c_8 : pOf (sA κ 4 (aN ((sA κ 3 (aN xb)) - 1))) 15
    · rw [if_pos c_8] at h_5
      subst h_5
      have w_9 : ¬ pWrong κ (sA κ 3 (aN xb)) 15 := fun h => h.2 c_8
      refine lv_if_ne (tgt := 29) hx hb dX7_useFault_24 (by decide) (fun _ => ?_) (fun c_ => absurd c_ (by decide))
      refine lv_aload_n hx hb dX7_useFault_29 rfl (lv_at hl 2 rfl) ?_
      refine r_get hC hw rk5 in_X7_useFault_5 ρ hst.1 hst.2 0 (by decide) lk_X7_useFault_15 (v := .int 71) rfl dX7_useFault_30 ?_
      refine lv_bipush (v := 70) hx hb dX7_useFault_33 (by decide) ?_
      refine lv_icmp_ne (tgt := 56) hx hb dX7_useFault_35 (by decide) (fun _ => ?_) (fun c_ => absurd c_ (by decide))
      refine lv_aload_n hx hb dX7_useFault_56 rfl (lv_at hl 1 rfl) ?_
      refine r_get hC hw rk7 in_X7_useFault_7 5 (wXl 5 (by decide)) wXc5 0 (by decide) lk_X7_useFault_9 (v := .ref (ad 2)) rfl dX7_useFault_57 ?_
      refine lv_aload_n hx hb dX7_useFault_60 rfl (lv_at hl 2 rfl) ?_
      refine r_get hC hw rk5 in_X7_useFault_5 ρ hst.1 hst.2 1 (by decide) lk_X7_useFault_69 (v := .int xa) rfl dX7_useFault_61 ?_
      refine lv_aload_n hx hb dX7_useFault_64 rfl (lv_at hl 0 rfl) ?_
      refine r_get hC hw rk6 in_X7_useFault_6 (100 + 4 * (aN ((sA κ 3 (aN xb)) - 1))) hl_b hc_b 7 (by decide) lk_X7_useFault_98 (v := va_rf ((rT (sA κ 8 (aN ((sA κ 3 (aN xb)) - 1)))).map ad)) rfl dX7_useFault_65 ?_
      refine r_kv hw (r_runV (rest := []) hC hw 2 (c_X3_setThingQ l _ _ 2 12 xa (rT (sA κ 8 (aN ((sA κ 3 (aN xb)) - 1)))) (by assumption) (rT_live (hX.2.2.2.1 _ hB_b.2) hX.1) (wXl 2 (by decide)) wXc2 (wXl 12 (by decide)) wXc12) rk3 (wXl 2 (by decide)) wXc2 2 gX7_useFault_X3_setThing rfl rfl rfl (by decide +kernel) ⟨Nat.le_of_ble_eq_true rfl, Nat.le_of_ble_eq_true rfl⟩ rfl hl.1 rfl (Nat.le_of_ble_eq_true rfl) dX7_useFault_68 ⟨Nat.le_of_ble_eq_true rfl, Nat.le_of_ble_eq_true rfl⟩) (fun u_12 H locs h_10 hw => ?_)
      replace hw := xS_refs (v := sA κ 8 (aN ((sA κ 3 (aN xb)) - 1))) rfl hw
      refine lv_iconst (v := 0) hx hb dX7_useFault_71 (by decide) ?_
      exact r_iret hC hr hlk hw (uA κ 3 (aN xa) (sA κ 8 (aN ((sA κ 3 (aN xb)) - 1)))) rfl (doR0 (κ := κ) (hd := hd) (th := th) (k := 71) (a := xa) (b := xb) (c := xc) ((if_neg n_4).trans (if_neg w_9))).symm (Nat.le_of_ble_eq_true rfl) (Nat.le_of_ble_eq_true rfl) dX7_useFault_72
    · rw [if_neg c_8] at h_5
      subst h_5
      have w_13 : pWrong κ (sA κ 3 (aN xb)) 15 := ⟨n_4, c_8⟩
      refine lv_if_ne (tgt := 29) hx hb dX7_useFault_24 (by decide) (fun c_ => absurd (by decide) c_) (fun _ => ?_)
      refine lv_iconst (v := 4) hx hb dX7_useFault_27 (by decide) ?_
      exact r_iret hC hr hlk hw κ rfl (doRf (κ := κ) (hd := hd) (th := th) (k := 71) (a := xa) (b := xb) (c := xc) ((if_neg n_4).trans (if_pos w_13)) (by decide)).symm (Nat.le_of_ble_eq_true rfl) (Nat.le_of_ble_eq_true rfl) dX7_useFault_28

