set_option maxHeartbeats 4000000 in
set_option maxRecDepth 100000 in
theorem c_X9_isIn (l : Launch) {D : va_G} {q : Nat → ClassId} (w : wT) (sz : Nat) (v lo hi : Int32) : Met l yX9_isIn wsX9_isIn (rmz 0 0) (va_Pc [.int v, .int lo, .int hi] (rPre D q w sz)) (va_Qi (fun (r : Int32) (u : Unit) => r = if pIn v lo hi then 1 else 0) (fun (u : Unit) tt => rPo D (rA w sz) w tt) (rA w sz)) 0 0 (rA w sz) := by
  refine r_start (cc := cX9_isIn) (maxL := 3) (ret := (some .boolean)) (by decide) rfl (Nat.le_of_ble_eq_true rfl) ?_
  intro p e s m below meth c ls hC hr hlk hnm hsz hw hl
  have hx := hC.1
  have hb := hC.2.1
  have hl : lv_has ls 3 [(0, .int v), (1, .int lo), (2, .int hi)] := hl
  refine lv_iload_n hx hb dX9_isIn_0 rfl (lv_at hl 0 rfl) ?_
  refine lv_iload_n hx hb dX9_isIn_1 rfl (lv_at hl 1 rfl) ?_
  refine lv_icmp_lt (tgt := 14) hx hb dX9_isIn_2 (by decide) (fun c_1 => ?_) (fun c_1 => ?_)
  · refine lv_iconst (v := 0) hx hb dX9_isIn_14 (by decide) ?_
    exact r_zret hC hr (by decide) hlk hw () rfl ((if_neg (fun h => h.1 c_1)).symm) (Nat.le_of_ble_eq_true rfl) (Nat.le_of_ble_eq_true rfl) dX9_isIn_15
  · refine lv_iload_n hx hb dX9_isIn_5 rfl (lv_at hl 0 rfl) ?_
    refine lv_iload_n hx hb dX9_isIn_6 rfl (lv_at hl 2 rfl) ?_
    refine lv_icmp_gt (tgt := 14) hx hb dX9_isIn_7 (by decide) (fun c_2 => ?_) (fun c_2 => ?_)
    · refine lv_iconst (v := 0) hx hb dX9_isIn_14 (by decide) ?_
      exact r_zret hC hr (by decide) hlk hw () rfl ((if_neg (fun h => h.2 c_2)).symm) (Nat.le_of_ble_eq_true rfl) (Nat.le_of_ble_eq_true rfl) dX9_isIn_15
    · refine lv_iconst (v := 1) hx hb dX9_isIn_10 (by decide) ?_
      refine lv_goto (tgt := 15) hx hb dX9_isIn_11 (by decide) ?_
      exact r_zret hC hr (by decide) hlk hw () rfl ((if_pos ⟨c_1, c_2⟩).symm) (Nat.le_of_ble_eq_true rfl) (Nat.le_of_ble_eq_true rfl) dX9_isIn_15

set_option maxHeartbeats 4000000 in
set_option maxRecDepth 100000 in
theorem c_X9_isRow (l : Launch) {D : va_G} {q : Nat → ClassId} (w : wT) (sz : Nat) (k : Int32) : Met l yX9_isRow wsX9_isRow (rmz 0 0) (va_Pc [.int k] (rPre D q w sz)) (va_Qi (fun (r : Int32) (u : Unit) => r = if pRow k then 1 else 0) (fun (u : Unit) tt => rPo D (rA w sz) w tt) (rA w sz)) 0 0 (rA w sz) := by
  refine r_start (cc := cX9_isRow) (maxL := 1) (ret := (some .boolean)) (by decide) rfl (Nat.le_of_ble_eq_true rfl) ?_
  intro p e s m below meth c ls hC hr hlk hnm hsz hw hl
  have hx := hC.1
  have hb := hC.2.1
  have hl : lv_has ls 1 [(0, .int k)] := hl
  refine lv_iload_n hx hb dX9_isRow_0 rfl (lv_at hl 0 rfl) ?_
  refine lv_bipush (v := 10) hx hb dX9_isRow_1 (by decide) ?_
  refine lv_icmp_gt (tgt := 10) hx hb dX9_isRow_3 (by decide) (fun c_1 => ?_) (fun c_1 => ?_)
  · refine lv_iconst (v := 0) hx hb dX9_isRow_10 (by decide) ?_
    exact r_zret hC hr (by decide) hlk hw () rfl (if_neg (fun h => h c_1)).symm (Nat.le_of_ble_eq_true rfl) (Nat.le_of_ble_eq_true rfl) dX9_isRow_11
  · refine lv_iconst (v := 1) hx hb dX9_isRow_6 (by decide) ?_
    refine lv_goto (tgt := 11) hx hb dX9_isRow_7 (by decide) ?_
    exact r_zret hC hr (by decide) hlk hw () rfl (if_pos c_1).symm (Nat.le_of_ble_eq_true rfl) (Nat.le_of_ble_eq_true rfl) dX9_isRow_11

set_option maxHeartbeats 4000000 in
set_option maxRecDepth 100000 in
theorem c_X9_isKnot (l : Launch) {D : va_G} {q : Nat → ClassId} (w : wT) (sz : Nat) (k : Int32) : Met l yX9_isKnot wsX9_isKnot (rmz 0 0) (va_Pc [.int k] (rPre D q w sz)) (va_Qi (fun (r : Int32) (u : Unit) => r = if pKnot k then 1 else 0) (fun (u : Unit) tt => rPo D (rA w sz) w tt) (rA w sz)) 0 0 (rA w sz) := by
  refine r_start (cc := cX9_isKnot) (maxL := 1) (ret := (some .boolean)) (by decide) rfl (Nat.le_of_ble_eq_true rfl) ?_
  intro p e s m below meth c ls hC hr hlk hnm hsz hw hl
  have hx := hC.1
  have hb := hC.2.1
  have hl : lv_has ls 1 [(0, .int k)] := hl
  refine lv_iload_n hx hb dX9_isKnot_0 rfl (lv_at hl 0 rfl) ?_
  refine lv_bipush (v := 11) hx hb dX9_isKnot_1 (by decide) ?_
  refine lv_icmp_eq (tgt := 18) hx hb dX9_isKnot_3 (by decide) (fun c_1 => ?_) (fun c_1 => ?_)
  · refine lv_iconst (v := 1) hx hb dX9_isKnot_18 (by decide) ?_
    refine lv_goto (tgt := 23) hx hb dX9_isKnot_19 (by decide) ?_
    exact r_zret hC hr (by decide) hlk hw () rfl (by simp [c_1]) (Nat.le_of_ble_eq_true rfl) (Nat.le_of_ble_eq_true rfl) dX9_isKnot_23
  · refine lv_iload_n hx hb dX9_isKnot_6 rfl (lv_at hl 0 rfl) ?_
    refine lv_bipush (v := 12) hx hb dX9_isKnot_7 (by decide) ?_
    refine lv_icmp_eq (tgt := 18) hx hb dX9_isKnot_9 (by decide) (fun c_2 => ?_) (fun c_2 => ?_)
    · refine lv_iconst (v := 1) hx hb dX9_isKnot_18 (by decide) ?_
      refine lv_goto (tgt := 23) hx hb dX9_isKnot_19 (by decide) ?_
      exact r_zret hC hr (by decide) hlk hw () rfl (by simp [c_1, c_2]) (Nat.le_of_ble_eq_true rfl) (Nat.le_of_ble_eq_true rfl) dX9_isKnot_23
    · refine lv_iload_n hx hb dX9_isKnot_12 rfl (lv_at hl 0 rfl) ?_
      refine lv_bipush (v := 13) hx hb dX9_isKnot_13 (by decide) ?_
      refine lv_icmp_ne (tgt := 22) hx hb dX9_isKnot_15 (by decide) (fun c_3 => ?_) (fun c_3 => ?_)
      · refine lv_iconst (v := 0) hx hb dX9_isKnot_22 (by decide) ?_
        exact r_zret hC hr (by decide) hlk hw () rfl (by simp [c_1, c_2, c_3]) (Nat.le_of_ble_eq_true rfl) (Nat.le_of_ble_eq_true rfl) dX9_isKnot_23
      · refine lv_iconst (v := 1) hx hb dX9_isKnot_18 (by decide) ?_
        refine lv_goto (tgt := 23) hx hb dX9_isKnot_19 (by decide) ?_
        exact r_zret hC hr (by decide) hlk hw () rfl (by simp [c_1, c_2, c_3]) (Nat.le_of_ble_eq_true rfl) (Nat.le_of_ble_eq_true rfl) dX9_isKnot_23

set_option maxHeartbeats 4000000 in
set_option maxRecDepth 100000 in
theorem c_X9_isOf_0 (l : Launch) {D : va_G} {q : Nat → ClassId} (w : wT) (sz : Nat) (o : Int32) : Met l yX9_isOf wsX9_isOf (rmz 1 20) (va_Pc [.int o, .int 0] (rPre D q w sz)) (va_Qi (fun (r : Int32) (u : Unit) => r = if pOf o 0 then 1 else 0) (fun (u : Unit) tt => rPo D (rA w sz) w tt) (rA w sz)) 0 0 (rA w sz) := by
  refine r_start (cc := cX9_isOf) (maxL := 2) (ret := (some .boolean)) (by decide) rfl (Nat.le_of_ble_eq_true rfl) ?_
  intro p e s m below meth c ls hC hr hlk hnm hsz hw hl
  have hx := hC.1
  have hb := hC.2.1
  have hl : lv_has ls 2 [(0, .int o), (1, .int 0)] := hl
  refine lv_iload_n hx hb dX9_isOf_0 rfl (lv_at hl 0 rfl) ?_
  refine lv_iload_n hx hb dX9_isOf_1 rfl (lv_at hl 1 rfl) ?_
  refine lv_icmp_ne (tgt := 7) hx hb dX9_isOf_2 (by decide) (fun c_1 => ?_) (fun c_1 => ?_)
  · refine lv_iload_n hx hb dX9_isOf_7 rfl (lv_at hl 1 rfl) ?_
    refine lv_tableOut (tgt := 121) hx hb dX9_isOf_8 (by decide) (by decide) ?_
    refine lv_iconst (v := 0) hx hb dX9_isOf_121 (by decide) ?_
    exact r_zret hC hr (by decide) hlk hw () rfl (by simp [pOf, c_1]) (Nat.le_of_ble_eq_true rfl) (Nat.le_of_ble_eq_true rfl) dX9_isOf_122
  · refine lv_iconst (v := 1) hx hb dX9_isOf_5 (by decide) ?_
    exact r_zret hC hr (by decide) hlk hw () rfl (by simp [pOf, c_1]) (Nat.le_of_ble_eq_true rfl) (Nat.le_of_ble_eq_true rfl) dX9_isOf_6

set_option maxHeartbeats 4000000 in
set_option maxRecDepth 100000 in
theorem c_X9_isOf_1 (l : Launch) {D : va_G} {q : Nat → ClassId} (w : wT) (sz : Nat) (o : Int32) : Met l yX9_isOf wsX9_isOf (rmz 1 20) (va_Pc [.int o, .int 1] (rPre D q w sz)) (va_Qi (fun (r : Int32) (u : Unit) => r = if pOf o 1 then 1 else 0) (fun (u : Unit) tt => rPo D (rA w sz) w tt) (rA w sz)) 0 0 (rA w sz) := by
  refine r_start (cc := cX9_isOf) (maxL := 2) (ret := (some .boolean)) (by decide) rfl (Nat.le_of_ble_eq_true rfl) ?_
  intro p e s m below meth c ls hC hr hlk hnm hsz hw hl
  have hx := hC.1
  have hb := hC.2.1
  have hl : lv_has ls 2 [(0, .int o), (1, .int 1)] := hl
  refine lv_iload_n hx hb dX9_isOf_0 rfl (lv_at hl 0 rfl) ?_
  refine lv_iload_n hx hb dX9_isOf_1 rfl (lv_at hl 1 rfl) ?_
  refine lv_icmp_ne (tgt := 7) hx hb dX9_isOf_2 (by decide) (fun c_1 => ?_) (fun c_1 => ?_)
  · refine lv_iload_n hx hb dX9_isOf_7 rfl (lv_at hl 1 rfl) ?_
    refine lv_tableOut (tgt := 121) hx hb dX9_isOf_8 (by decide) (by decide) ?_
    refine lv_iconst (v := 0) hx hb dX9_isOf_121 (by decide) ?_
    exact r_zret hC hr (by decide) hlk hw () rfl (by simp [pOf, c_1]) (Nat.le_of_ble_eq_true rfl) (Nat.le_of_ble_eq_true rfl) dX9_isOf_122
  · refine lv_iconst (v := 1) hx hb dX9_isOf_5 (by decide) ?_
    exact r_zret hC hr (by decide) hlk hw () rfl (by simp [pOf, c_1]) (Nat.le_of_ble_eq_true rfl) (Nat.le_of_ble_eq_true rfl) dX9_isOf_6

set_option maxHeartbeats 4000000 in
set_option maxRecDepth 100000 in
theorem c_X9_isOf_2 (l : Launch) {D : va_G} {q : Nat → ClassId} (w : wT) (sz : Nat) (o : Int32) : Met l yX9_isOf wsX9_isOf (rmz 1 20) (va_Pc [.int o, .int 2] (rPre D q w sz)) (va_Qi (fun (r : Int32) (u : Unit) => r = if pOf o 2 then 1 else 0) (fun (u : Unit) tt => rPo D (rA w sz) w tt) (rA w sz)) 0 0 (rA w sz) := by
  refine r_start (cc := cX9_isOf) (maxL := 2) (ret := (some .boolean)) (by decide) rfl (Nat.le_of_ble_eq_true rfl) ?_
  intro p e s m below meth c ls hC hr hlk hnm hsz hw hl
  have hx := hC.1
  have hb := hC.2.1
  have hl : lv_has ls 2 [(0, .int o), (1, .int 2)] := hl
  refine lv_iload_n hx hb dX9_isOf_0 rfl (lv_at hl 0 rfl) ?_
  refine lv_iload_n hx hb dX9_isOf_1 rfl (lv_at hl 1 rfl) ?_
  refine lv_icmp_ne (tgt := 7) hx hb dX9_isOf_2 (by decide) (fun c_1 => ?_) (fun c_1 => ?_)
  · refine lv_iload_n hx hb dX9_isOf_7 rfl (lv_at hl 1 rfl) ?_
    refine lv_tableOut (tgt := 121) hx hb dX9_isOf_8 (by decide) (by decide) ?_
    refine lv_iconst (v := 0) hx hb dX9_isOf_121 (by decide) ?_
    exact r_zret hC hr (by decide) hlk hw () rfl (by simp [pOf, c_1]) (Nat.le_of_ble_eq_true rfl) (Nat.le_of_ble_eq_true rfl) dX9_isOf_122
  · refine lv_iconst (v := 1) hx hb dX9_isOf_5 (by decide) ?_
    exact r_zret hC hr (by decide) hlk hw () rfl (by simp [pOf, c_1]) (Nat.le_of_ble_eq_true rfl) (Nat.le_of_ble_eq_true rfl) dX9_isOf_6

set_option maxHeartbeats 4000000 in
set_option maxRecDepth 100000 in
theorem c_X9_isOf_3 (l : Launch) {D : va_G} {q : Nat → ClassId} (w : wT) (sz : Nat) (o : Int32) : Met l yX9_isOf wsX9_isOf (rmz 1 20) (va_Pc [.int o, .int 3] (rPre D q w sz)) (va_Qi (fun (r : Int32) (u : Unit) => r = if pOf o 3 then 1 else 0) (fun (u : Unit) tt => rPo D (rA w sz) w tt) (rA w sz)) 0 0 (rA w sz) := by
  refine r_start (cc := cX9_isOf) (maxL := 2) (ret := (some .boolean)) (by decide) rfl (Nat.le_of_ble_eq_true rfl) ?_
  intro p e s m below meth c ls hC hr hlk hnm hsz hw hl
  have hx := hC.1
  have hb := hC.2.1
  have hl : lv_has ls 2 [(0, .int o), (1, .int 3)] := hl
  refine lv_iload_n hx hb dX9_isOf_0 rfl (lv_at hl 0 rfl) ?_
  refine lv_iload_n hx hb dX9_isOf_1 rfl (lv_at hl 1 rfl) ?_
  refine lv_icmp_ne (tgt := 7) hx hb dX9_isOf_2 (by decide) (fun c_1 => ?_) (fun c_1 => ?_)
  · refine lv_iload_n hx hb dX9_isOf_7 rfl (lv_at hl 1 rfl) ?_
    refine lv_tableOut (tgt := 121) hx hb dX9_isOf_8 (by decide) (by decide) ?_
    refine lv_iconst (v := 0) hx hb dX9_isOf_121 (by decide) ?_
    exact r_zret hC hr (by decide) hlk hw () rfl (by simp [pOf, c_1]) (Nat.le_of_ble_eq_true rfl) (Nat.le_of_ble_eq_true rfl) dX9_isOf_122
  · refine lv_iconst (v := 1) hx hb dX9_isOf_5 (by decide) ?_
    exact r_zret hC hr (by decide) hlk hw () rfl (by simp [pOf, c_1]) (Nat.le_of_ble_eq_true rfl) (Nat.le_of_ble_eq_true rfl) dX9_isOf_6

set_option maxHeartbeats 4000000 in
set_option maxRecDepth 100000 in
theorem c_X9_isOf_4 (l : Launch) {D : va_G} {q : Nat → ClassId} (w : wT) (sz : Nat) (o : Int32) : Met l yX9_isOf wsX9_isOf (rmz 1 20) (va_Pc [.int o, .int 4] (rPre D q w sz)) (va_Qi (fun (r : Int32) (u : Unit) => r = if pOf o 4 then 1 else 0) (fun (u : Unit) tt => rPo D (rA w sz) w tt) (rA w sz)) 0 0 (rA w sz) := by
  refine r_start (cc := cX9_isOf) (maxL := 2) (ret := (some .boolean)) (by decide) rfl (Nat.le_of_ble_eq_true rfl) ?_
  intro p e s m below meth c ls hC hr hlk hnm hsz hw hl
  have hx := hC.1
  have hb := hC.2.1
  have hl : lv_has ls 2 [(0, .int o), (1, .int 4)] := hl
  refine lv_iload_n hx hb dX9_isOf_0 rfl (lv_at hl 0 rfl) ?_
  refine lv_iload_n hx hb dX9_isOf_1 rfl (lv_at hl 1 rfl) ?_
  refine lv_icmp_ne (tgt := 7) hx hb dX9_isOf_2 (by decide) (fun c_1 => ?_) (fun c_1 => ?_)
  · refine lv_iload_n hx hb dX9_isOf_7 rfl (lv_at hl 1 rfl) ?_
    refine lv_tableOut (tgt := 121) hx hb dX9_isOf_8 (by decide) (by decide) ?_
    refine lv_iconst (v := 0) hx hb dX9_isOf_121 (by decide) ?_
    exact r_zret hC hr (by decide) hlk hw () rfl (by simp [pOf, c_1]) (Nat.le_of_ble_eq_true rfl) (Nat.le_of_ble_eq_true rfl) dX9_isOf_122
  · refine lv_iconst (v := 1) hx hb dX9_isOf_5 (by decide) ?_
    exact r_zret hC hr (by decide) hlk hw () rfl (by simp [pOf, c_1]) (Nat.le_of_ble_eq_true rfl) (Nat.le_of_ble_eq_true rfl) dX9_isOf_6

set_option maxHeartbeats 4000000 in
set_option maxRecDepth 100000 in
theorem c_X9_isOf_5 (l : Launch) {D : va_G} {q : Nat → ClassId} (w : wT) (sz : Nat) (o : Int32) : Met l yX9_isOf wsX9_isOf (rmz 1 20) (va_Pc [.int o, .int 5] (rPre D q w sz)) (va_Qi (fun (r : Int32) (u : Unit) => r = if pOf o 5 then 1 else 0) (fun (u : Unit) tt => rPo D (rA w sz) w tt) (rA w sz)) 0 0 (rA w sz) := by
  refine r_start (cc := cX9_isOf) (maxL := 2) (ret := (some .boolean)) (by decide) rfl (Nat.le_of_ble_eq_true rfl) ?_
  intro p e s m below meth c ls hC hr hlk hnm hsz hw hl
  have hx := hC.1
  have hb := hC.2.1
  have hl : lv_has ls 2 [(0, .int o), (1, .int 5)] := hl
  refine lv_iload_n hx hb dX9_isOf_0 rfl (lv_at hl 0 rfl) ?_
  refine lv_iload_n hx hb dX9_isOf_1 rfl (lv_at hl 1 rfl) ?_
  refine lv_icmp_ne (tgt := 7) hx hb dX9_isOf_2 (by decide) (fun c_1 => ?_) (fun c_1 => ?_)
  · refine lv_iload_n hx hb dX9_isOf_7 rfl (lv_at hl 1 rfl) ?_
    refine lv_tableOut (tgt := 121) hx hb dX9_isOf_8 (by decide) (by decide) ?_
    refine lv_iconst (v := 0) hx hb dX9_isOf_121 (by decide) ?_
    exact r_zret hC hr (by decide) hlk hw () rfl (by simp [pOf, c_1]) (Nat.le_of_ble_eq_true rfl) (Nat.le_of_ble_eq_true rfl) dX9_isOf_122
  · refine lv_iconst (v := 1) hx hb dX9_isOf_5 (by decide) ?_
    exact r_zret hC hr (by decide) hlk hw () rfl (by simp [pOf, c_1]) (Nat.le_of_ble_eq_true rfl) (Nat.le_of_ble_eq_true rfl) dX9_isOf_6

set_option maxHeartbeats 4000000 in
set_option maxRecDepth 100000 in
theorem c_X9_isOf_6 (l : Launch) {D : va_G} {q : Nat → ClassId} (w : wT) (sz : Nat) (o : Int32) : Met l yX9_isOf wsX9_isOf (rmz 1 20) (va_Pc [.int o, .int 6] (rPre D q w sz)) (va_Qi (fun (r : Int32) (u : Unit) => r = if pOf o 6 then 1 else 0) (fun (u : Unit) tt => rPo D (rA w sz) w tt) (rA w sz)) 0 0 (rA w sz) := by
  refine r_start (cc := cX9_isOf) (maxL := 2) (ret := (some .boolean)) (by decide) rfl (Nat.le_of_ble_eq_true rfl) ?_
  intro p e s m below meth c ls hC hr hlk hnm hsz hw hl
  have hx := hC.1
  have hb := hC.2.1
  have hl : lv_has ls 2 [(0, .int o), (1, .int 6)] := hl
  refine lv_iload_n hx hb dX9_isOf_0 rfl (lv_at hl 0 rfl) ?_
  refine lv_iload_n hx hb dX9_isOf_1 rfl (lv_at hl 1 rfl) ?_
  refine lv_icmp_ne (tgt := 7) hx hb dX9_isOf_2 (by decide) (fun c_1 => ?_) (fun c_1 => ?_)
  · refine lv_iload_n hx hb dX9_isOf_7 rfl (lv_at hl 1 rfl) ?_
    refine lv_tableOut (tgt := 121) hx hb dX9_isOf_8 (by decide) (by decide) ?_
    refine lv_iconst (v := 0) hx hb dX9_isOf_121 (by decide) ?_
    exact r_zret hC hr (by decide) hlk hw () rfl (by simp [pOf, c_1]) (Nat.le_of_ble_eq_true rfl) (Nat.le_of_ble_eq_true rfl) dX9_isOf_122
  · refine lv_iconst (v := 1) hx hb dX9_isOf_5 (by decide) ?_
    exact r_zret hC hr (by decide) hlk hw () rfl (by simp [pOf, c_1]) (Nat.le_of_ble_eq_true rfl) (Nat.le_of_ble_eq_true rfl) dX9_isOf_6

set_option maxHeartbeats 4000000 in
set_option maxRecDepth 100000 in
theorem c_X9_isOf_7 (l : Launch) {D : va_G} {q : Nat → ClassId} (w : wT) (sz : Nat) (o : Int32) : Met l yX9_isOf wsX9_isOf (rmz 1 20) (va_Pc [.int o, .int 7] (rPre D q w sz)) (va_Qi (fun (r : Int32) (u : Unit) => r = if pOf o 7 then 1 else 0) (fun (u : Unit) tt => rPo D (rA w sz) w tt) (rA w sz)) 0 0 (rA w sz) := by
  refine r_start (cc := cX9_isOf) (maxL := 2) (ret := (some .boolean)) (by decide) rfl (Nat.le_of_ble_eq_true rfl) ?_
  intro p e s m below meth c ls hC hr hlk hnm hsz hw hl
  have hx := hC.1
  have hb := hC.2.1
  have hl : lv_has ls 2 [(0, .int o), (1, .int 7)] := hl
  refine lv_iload_n hx hb dX9_isOf_0 rfl (lv_at hl 0 rfl) ?_
  refine lv_iload_n hx hb dX9_isOf_1 rfl (lv_at hl 1 rfl) ?_
  refine lv_icmp_ne (tgt := 7) hx hb dX9_isOf_2 (by decide) (fun c_1 => ?_) (fun c_1 => ?_)
  · refine lv_iload_n hx hb dX9_isOf_7 rfl (lv_at hl 1 rfl) ?_
    refine lv_tableOut (tgt := 121) hx hb dX9_isOf_8 (by decide) (by decide) ?_
    refine lv_iconst (v := 0) hx hb dX9_isOf_121 (by decide) ?_
    exact r_zret hC hr (by decide) hlk hw () rfl (by simp [pOf, c_1]) (Nat.le_of_ble_eq_true rfl) (Nat.le_of_ble_eq_true rfl) dX9_isOf_122
  · refine lv_iconst (v := 1) hx hb dX9_isOf_5 (by decide) ?_
    exact r_zret hC hr (by decide) hlk hw () rfl (by simp [pOf, c_1]) (Nat.le_of_ble_eq_true rfl) (Nat.le_of_ble_eq_true rfl) dX9_isOf_6

set_option maxHeartbeats 4000000 in
set_option maxRecDepth 100000 in
theorem c_X9_isOf_8 (l : Launch) {D : va_G} {q : Nat → ClassId} (w : wT) (sz : Nat) (o : Int32) : Met l yX9_isOf wsX9_isOf (rmz 1 20) (va_Pc [.int o, .int 8] (rPre D q w sz)) (va_Qi (fun (r : Int32) (u : Unit) => r = if pOf o 8 then 1 else 0) (fun (u : Unit) tt => rPo D (rA w sz) w tt) (rA w sz)) 0 0 (rA w sz) := by
  refine r_start (cc := cX9_isOf) (maxL := 2) (ret := (some .boolean)) (by decide) rfl (Nat.le_of_ble_eq_true rfl) ?_
  intro p e s m below meth c ls hC hr hlk hnm hsz hw hl
  have hx := hC.1
  have hb := hC.2.1
  have hl : lv_has ls 2 [(0, .int o), (1, .int 8)] := hl
  refine lv_iload_n hx hb dX9_isOf_0 rfl (lv_at hl 0 rfl) ?_
  refine lv_iload_n hx hb dX9_isOf_1 rfl (lv_at hl 1 rfl) ?_
  refine lv_icmp_ne (tgt := 7) hx hb dX9_isOf_2 (by decide) (fun c_1 => ?_) (fun c_1 => ?_)
  · refine lv_iload_n hx hb dX9_isOf_7 rfl (lv_at hl 1 rfl) ?_
    refine lv_tableIn (tgt := 60) hx hb dX9_isOf_8 (by decide) (by decide) (by rfl) (by decide) ?_
    refine lv_iload_n hx hb dX9_isOf_60 rfl (lv_at hl 0 rfl) ?_
    refine lv_bipush (v := 9) hx hb dX9_isOf_61 (by decide) ?_
    refine lv_icmp_ne (tgt := 70) hx hb dX9_isOf_63 (by decide) (fun c_2 => ?_) (fun c_2 => ?_)
    · refine lv_iconst (v := 0) hx hb dX9_isOf_70 (by decide) ?_
      exact r_zret hC hr (by decide) hlk hw () rfl (by simp [pOf, c_1, c_2]) (Nat.le_of_ble_eq_true rfl) (Nat.le_of_ble_eq_true rfl) dX9_isOf_71
    · refine lv_iconst (v := 1) hx hb dX9_isOf_66 (by decide) ?_
      refine lv_goto (tgt := 71) hx hb dX9_isOf_67 (by decide) ?_
      exact r_zret hC hr (by decide) hlk hw () rfl (by simp [pOf, c_1, c_2]) (Nat.le_of_ble_eq_true rfl) (Nat.le_of_ble_eq_true rfl) dX9_isOf_71
  · refine lv_iconst (v := 1) hx hb dX9_isOf_5 (by decide) ?_
    exact r_zret hC hr (by decide) hlk hw () rfl (by simp [pOf, c_1]) (Nat.le_of_ble_eq_true rfl) (Nat.le_of_ble_eq_true rfl) dX9_isOf_6

set_option maxHeartbeats 4000000 in
set_option maxRecDepth 100000 in
theorem c_X9_isOf_9 (l : Launch) {D : va_G} {q : Nat → ClassId} (w : wT) (sz : Nat) (o : Int32) : Met l yX9_isOf wsX9_isOf (rmz 1 20) (va_Pc [.int o, .int 9] (rPre D q w sz)) (va_Qi (fun (r : Int32) (u : Unit) => r = if pOf o 9 then 1 else 0) (fun (u : Unit) tt => rPo D (rA w sz) w tt) (rA w sz)) 0 0 (rA w sz) := by
  refine r_start (cc := cX9_isOf) (maxL := 2) (ret := (some .boolean)) (by decide) rfl (Nat.le_of_ble_eq_true rfl) ?_
  intro p e s m below meth c ls hC hr hlk hnm hsz hw hl
  have hx := hC.1
  have hb := hC.2.1
  have hl : lv_has ls 2 [(0, .int o), (1, .int 9)] := hl
  refine lv_iload_n hx hb dX9_isOf_0 rfl (lv_at hl 0 rfl) ?_
  refine lv_iload_n hx hb dX9_isOf_1 rfl (lv_at hl 1 rfl) ?_
  refine lv_icmp_ne (tgt := 7) hx hb dX9_isOf_2 (by decide) (fun c_1 => ?_) (fun c_1 => ?_)
  · refine lv_iload_n hx hb dX9_isOf_7 rfl (lv_at hl 1 rfl) ?_
    refine lv_tableIn (tgt := 121) hx hb dX9_isOf_8 (by decide) (by decide) (by rfl) (by decide) ?_
    refine lv_iconst (v := 0) hx hb dX9_isOf_121 (by decide) ?_
    exact r_zret hC hr (by decide) hlk hw () rfl (by simp [pOf, c_1]) (Nat.le_of_ble_eq_true rfl) (Nat.le_of_ble_eq_true rfl) dX9_isOf_122
  · refine lv_iconst (v := 1) hx hb dX9_isOf_5 (by decide) ?_
    exact r_zret hC hr (by decide) hlk hw () rfl (by simp [pOf, c_1]) (Nat.le_of_ble_eq_true rfl) (Nat.le_of_ble_eq_true rfl) dX9_isOf_6

set_option maxHeartbeats 4000000 in
set_option maxRecDepth 100000 in
theorem c_X9_isOf_10 (l : Launch) {D : va_G} {q : Nat → ClassId} (w : wT) (sz : Nat) (o : Int32) : Met l yX9_isOf wsX9_isOf (rmz 1 20) (va_Pc [.int o, .int 10] (rPre D q w sz)) (va_Qi (fun (r : Int32) (u : Unit) => r = if pOf o 10 then 1 else 0) (fun (u : Unit) tt => rPo D (rA w sz) w tt) (rA w sz)) 0 0 (rA w sz) := by
  refine r_start (cc := cX9_isOf) (maxL := 2) (ret := (some .boolean)) (by decide) rfl (Nat.le_of_ble_eq_true rfl) ?_
  intro p e s m below meth c ls hC hr hlk hnm hsz hw hl
  have hx := hC.1
  have hb := hC.2.1
  have hl : lv_has ls 2 [(0, .int o), (1, .int 10)] := hl
  refine lv_iload_n hx hb dX9_isOf_0 rfl (lv_at hl 0 rfl) ?_
  refine lv_iload_n hx hb dX9_isOf_1 rfl (lv_at hl 1 rfl) ?_
  refine lv_icmp_ne (tgt := 7) hx hb dX9_isOf_2 (by decide) (fun c_1 => ?_) (fun c_1 => ?_)
  · refine lv_iload_n hx hb dX9_isOf_7 rfl (lv_at hl 1 rfl) ?_
    refine lv_tableIn (tgt := 121) hx hb dX9_isOf_8 (by decide) (by decide) (by rfl) (by decide) ?_
    refine lv_iconst (v := 0) hx hb dX9_isOf_121 (by decide) ?_
    exact r_zret hC hr (by decide) hlk hw () rfl (by simp [pOf, c_1]) (Nat.le_of_ble_eq_true rfl) (Nat.le_of_ble_eq_true rfl) dX9_isOf_122
  · refine lv_iconst (v := 1) hx hb dX9_isOf_5 (by decide) ?_
    exact r_zret hC hr (by decide) hlk hw () rfl (by simp [pOf, c_1]) (Nat.le_of_ble_eq_true rfl) (Nat.le_of_ble_eq_true rfl) dX9_isOf_6

set_option maxHeartbeats 4000000 in
set_option maxRecDepth 100000 in
theorem c_X9_isOf_11 (l : Launch) {D : va_G} {q : Nat → ClassId} (w : wT) (sz : Nat) (o : Int32) : Met l yX9_isOf wsX9_isOf (rmz 1 20) (va_Pc [.int o, .int 11] (rPre D q w sz)) (va_Qi (fun (r : Int32) (u : Unit) => r = if pOf o 11 then 1 else 0) (fun (u : Unit) tt => rPo D (rA w sz) w tt) (rA w sz)) 0 0 (rA w sz) := by
  refine r_start (cc := cX9_isOf) (maxL := 2) (ret := (some .boolean)) (by decide) rfl (Nat.le_of_ble_eq_true rfl) ?_
  intro p e s m below meth c ls hC hr hlk hnm hsz hw hl
  have hx := hC.1
  have hb := hC.2.1
  have hl : lv_has ls 2 [(0, .int o), (1, .int 11)] := hl
  refine lv_iload_n hx hb dX9_isOf_0 rfl (lv_at hl 0 rfl) ?_
  refine lv_iload_n hx hb dX9_isOf_1 rfl (lv_at hl 1 rfl) ?_
  refine lv_icmp_ne (tgt := 7) hx hb dX9_isOf_2 (by decide) (fun c_1 => ?_) (fun c_1 => ?_)
  · refine lv_iload_n hx hb dX9_isOf_7 rfl (lv_at hl 1 rfl) ?_
    refine lv_tableIn (tgt := 72) hx hb dX9_isOf_8 (by decide) (by decide) (by rfl) (by decide) ?_
    refine lv_iload_n hx hb dX9_isOf_72 rfl (lv_at hl 0 rfl) ?_
    refine lv_bipush (v := 12) hx hb dX9_isOf_73 (by decide) ?_
    refine lv_icmp_eq (tgt := 84) hx hb dX9_isOf_75 (by decide) (fun c_2 => ?_) (fun c_2 => ?_)
    · refine lv_iconst (v := 1) hx hb dX9_isOf_84 (by decide) ?_
      refine lv_goto (tgt := 89) hx hb dX9_isOf_85 (by decide) ?_
      exact r_zret hC hr (by decide) hlk hw () rfl (by simp [pOf, c_1, c_2]) (Nat.le_of_ble_eq_true rfl) (Nat.le_of_ble_eq_true rfl) dX9_isOf_89
    · refine lv_iload_n hx hb dX9_isOf_78 rfl (lv_at hl 0 rfl) ?_
      refine lv_bipush (v := 13) hx hb dX9_isOf_79 (by decide) ?_
      refine lv_icmp_ne (tgt := 88) hx hb dX9_isOf_81 (by decide) (fun c_3 => ?_) (fun c_3 => ?_)
      · refine lv_iconst (v := 0) hx hb dX9_isOf_88 (by decide) ?_
        exact r_zret hC hr (by decide) hlk hw () rfl (by simp [pOf, c_1, c_2, c_3]) (Nat.le_of_ble_eq_true rfl) (Nat.le_of_ble_eq_true rfl) dX9_isOf_89
      · refine lv_iconst (v := 1) hx hb dX9_isOf_84 (by decide) ?_
        refine lv_goto (tgt := 89) hx hb dX9_isOf_85 (by decide) ?_
        exact r_zret hC hr (by decide) hlk hw () rfl (by simp [pOf, c_1, c_2, c_3]) (Nat.le_of_ble_eq_true rfl) (Nat.le_of_ble_eq_true rfl) dX9_isOf_89
  · refine lv_iconst (v := 1) hx hb dX9_isOf_5 (by decide) ?_
    exact r_zret hC hr (by decide) hlk hw () rfl (by simp [pOf, c_1]) (Nat.le_of_ble_eq_true rfl) (Nat.le_of_ble_eq_true rfl) dX9_isOf_6

set_option maxHeartbeats 4000000 in
set_option maxRecDepth 100000 in
theorem c_X9_isOf_12 (l : Launch) {D : va_G} {q : Nat → ClassId} (w : wT) (sz : Nat) (o : Int32) : Met l yX9_isOf wsX9_isOf (rmz 1 20) (va_Pc [.int o, .int 12] (rPre D q w sz)) (va_Qi (fun (r : Int32) (u : Unit) => r = if pOf o 12 then 1 else 0) (fun (u : Unit) tt => rPo D (rA w sz) w tt) (rA w sz)) 0 0 (rA w sz) := by
  refine r_start (cc := cX9_isOf) (maxL := 2) (ret := (some .boolean)) (by decide) rfl (Nat.le_of_ble_eq_true rfl) ?_
  intro p e s m below meth c ls hC hr hlk hnm hsz hw hl
  have hx := hC.1
  have hb := hC.2.1
  have hl : lv_has ls 2 [(0, .int o), (1, .int 12)] := hl
  refine lv_iload_n hx hb dX9_isOf_0 rfl (lv_at hl 0 rfl) ?_
  refine lv_iload_n hx hb dX9_isOf_1 rfl (lv_at hl 1 rfl) ?_
  refine lv_icmp_ne (tgt := 7) hx hb dX9_isOf_2 (by decide) (fun c_1 => ?_) (fun c_1 => ?_)
  · refine lv_iload_n hx hb dX9_isOf_7 rfl (lv_at hl 1 rfl) ?_
    refine lv_tableIn (tgt := 90) hx hb dX9_isOf_8 (by decide) (by decide) (by rfl) (by decide) ?_
    refine lv_iload_n hx hb dX9_isOf_90 rfl (lv_at hl 0 rfl) ?_
    refine lv_bipush (v := 13) hx hb dX9_isOf_91 (by decide) ?_
    refine lv_icmp_ne (tgt := 100) hx hb dX9_isOf_93 (by decide) (fun c_2 => ?_) (fun c_2 => ?_)
    · refine lv_iconst (v := 0) hx hb dX9_isOf_100 (by decide) ?_
      exact r_zret hC hr (by decide) hlk hw () rfl (by simp [pOf, c_1, c_2]) (Nat.le_of_ble_eq_true rfl) (Nat.le_of_ble_eq_true rfl) dX9_isOf_101
    · refine lv_iconst (v := 1) hx hb dX9_isOf_96 (by decide) ?_
      refine lv_goto (tgt := 101) hx hb dX9_isOf_97 (by decide) ?_
      exact r_zret hC hr (by decide) hlk hw () rfl (by simp [pOf, c_1, c_2]) (Nat.le_of_ble_eq_true rfl) (Nat.le_of_ble_eq_true rfl) dX9_isOf_101
  · refine lv_iconst (v := 1) hx hb dX9_isOf_5 (by decide) ?_
    exact r_zret hC hr (by decide) hlk hw () rfl (by simp [pOf, c_1]) (Nat.le_of_ble_eq_true rfl) (Nat.le_of_ble_eq_true rfl) dX9_isOf_6

set_option maxHeartbeats 4000000 in
set_option maxRecDepth 100000 in
theorem c_X9_isOf_13 (l : Launch) {D : va_G} {q : Nat → ClassId} (w : wT) (sz : Nat) (o : Int32) : Met l yX9_isOf wsX9_isOf (rmz 1 20) (va_Pc [.int o, .int 13] (rPre D q w sz)) (va_Qi (fun (r : Int32) (u : Unit) => r = if pOf o 13 then 1 else 0) (fun (u : Unit) tt => rPo D (rA w sz) w tt) (rA w sz)) 0 0 (rA w sz) := by
  refine r_start (cc := cX9_isOf) (maxL := 2) (ret := (some .boolean)) (by decide) rfl (Nat.le_of_ble_eq_true rfl) ?_
  intro p e s m below meth c ls hC hr hlk hnm hsz hw hl
  have hx := hC.1
  have hb := hC.2.1
  have hl : lv_has ls 2 [(0, .int o), (1, .int 13)] := hl
  refine lv_iload_n hx hb dX9_isOf_0 rfl (lv_at hl 0 rfl) ?_
  refine lv_iload_n hx hb dX9_isOf_1 rfl (lv_at hl 1 rfl) ?_
  refine lv_icmp_ne (tgt := 7) hx hb dX9_isOf_2 (by decide) (fun c_1 => ?_) (fun c_1 => ?_)
  · refine lv_iload_n hx hb dX9_isOf_7 rfl (lv_at hl 1 rfl) ?_
    refine lv_tableIn (tgt := 121) hx hb dX9_isOf_8 (by decide) (by decide) (by rfl) (by decide) ?_
    refine lv_iconst (v := 0) hx hb dX9_isOf_121 (by decide) ?_
    exact r_zret hC hr (by decide) hlk hw () rfl (by simp [pOf, c_1]) (Nat.le_of_ble_eq_true rfl) (Nat.le_of_ble_eq_true rfl) dX9_isOf_122
  · refine lv_iconst (v := 1) hx hb dX9_isOf_5 (by decide) ?_
    exact r_zret hC hr (by decide) hlk hw () rfl (by simp [pOf, c_1]) (Nat.le_of_ble_eq_true rfl) (Nat.le_of_ble_eq_true rfl) dX9_isOf_6

set_option maxHeartbeats 4000000 in
set_option maxRecDepth 100000 in
theorem c_X9_isOf_14 (l : Launch) {D : va_G} {q : Nat → ClassId} (w : wT) (sz : Nat) (o : Int32) : Met l yX9_isOf wsX9_isOf (rmz 1 20) (va_Pc [.int o, .int 14] (rPre D q w sz)) (va_Qi (fun (r : Int32) (u : Unit) => r = if pOf o 14 then 1 else 0) (fun (u : Unit) tt => rPo D (rA w sz) w tt) (rA w sz)) 0 0 (rA w sz) := by
  refine r_start (cc := cX9_isOf) (maxL := 2) (ret := (some .boolean)) (by decide) rfl (Nat.le_of_ble_eq_true rfl) ?_
  intro p e s m below meth c ls hC hr hlk hnm hsz hw hl
  have hx := hC.1
  have hb := hC.2.1
  have hl : lv_has ls 2 [(0, .int o), (1, .int 14)] := hl
  refine lv_iload_n hx hb dX9_isOf_0 rfl (lv_at hl 0 rfl) ?_
  refine lv_iload_n hx hb dX9_isOf_1 rfl (lv_at hl 1 rfl) ?_
  refine lv_icmp_ne (tgt := 7) hx hb dX9_isOf_2 (by decide) (fun c_1 => ?_) (fun c_1 => ?_)
  · refine lv_iload_n hx hb dX9_isOf_7 rfl (lv_at hl 1 rfl) ?_
    refine lv_tableIn (tgt := 121) hx hb dX9_isOf_8 (by decide) (by decide) (by rfl) (by decide) ?_
    refine lv_iconst (v := 0) hx hb dX9_isOf_121 (by decide) ?_
    exact r_zret hC hr (by decide) hlk hw () rfl (by simp [pOf, c_1]) (Nat.le_of_ble_eq_true rfl) (Nat.le_of_ble_eq_true rfl) dX9_isOf_122
  · refine lv_iconst (v := 1) hx hb dX9_isOf_5 (by decide) ?_
    exact r_zret hC hr (by decide) hlk hw () rfl (by simp [pOf, c_1]) (Nat.le_of_ble_eq_true rfl) (Nat.le_of_ble_eq_true rfl) dX9_isOf_6

set_option maxHeartbeats 4000000 in
set_option maxRecDepth 100000 in
theorem c_X9_isOf_15 (l : Launch) {D : va_G} {q : Nat → ClassId} (w : wT) (sz : Nat) (o : Int32) : Met l yX9_isOf wsX9_isOf (rmz 1 20) (va_Pc [.int o, .int 15] (rPre D q w sz)) (va_Qi (fun (r : Int32) (u : Unit) => r = if pOf o 15 then 1 else 0) (fun (u : Unit) tt => rPo D (rA w sz) w tt) (rA w sz)) 0 0 (rA w sz) := by
  refine r_start (cc := cX9_isOf) (maxL := 2) (ret := (some .boolean)) (by decide) rfl (Nat.le_of_ble_eq_true rfl) ?_
  intro p e s m below meth c ls hC hr hlk hnm hsz hw hl
  have hx := hC.1
  have hb := hC.2.1
  have hl : lv_has ls 2 [(0, .int o), (1, .int 15)] := hl
  refine lv_iload_n hx hb dX9_isOf_0 rfl (lv_at hl 0 rfl) ?_
  refine lv_iload_n hx hb dX9_isOf_1 rfl (lv_at hl 1 rfl) ?_
  refine lv_icmp_ne (tgt := 7) hx hb dX9_isOf_2 (by decide) (fun c_1 => ?_) (fun c_1 => ?_)
  · refine lv_iload_n hx hb dX9_isOf_7 rfl (lv_at hl 1 rfl) ?_
    refine lv_tableIn (tgt := 121) hx hb dX9_isOf_8 (by decide) (by decide) (by rfl) (by decide) ?_
    refine lv_iconst (v := 0) hx hb dX9_isOf_121 (by decide) ?_
    exact r_zret hC hr (by decide) hlk hw () rfl (by simp [pOf, c_1]) (Nat.le_of_ble_eq_true rfl) (Nat.le_of_ble_eq_true rfl) dX9_isOf_122
  · refine lv_iconst (v := 1) hx hb dX9_isOf_5 (by decide) ?_
    exact r_zret hC hr (by decide) hlk hw () rfl (by simp [pOf, c_1]) (Nat.le_of_ble_eq_true rfl) (Nat.le_of_ble_eq_true rfl) dX9_isOf_6

set_option maxHeartbeats 4000000 in
set_option maxRecDepth 100000 in
theorem c_X9_isOf_16 (l : Launch) {D : va_G} {q : Nat → ClassId} (w : wT) (sz : Nat) (o : Int32) : Met l yX9_isOf wsX9_isOf (rmz 1 20) (va_Pc [.int o, .int 16] (rPre D q w sz)) (va_Qi (fun (r : Int32) (u : Unit) => r = if pOf o 16 then 1 else 0) (fun (u : Unit) tt => rPo D (rA w sz) w tt) (rA w sz)) 0 0 (rA w sz) := by
  refine r_start (cc := cX9_isOf) (maxL := 2) (ret := (some .boolean)) (by decide) rfl (Nat.le_of_ble_eq_true rfl) ?_
  intro p e s m below meth c ls hC hr hlk hnm hsz hw hl
  have hx := hC.1
  have hb := hC.2.1
  have hl : lv_has ls 2 [(0, .int o), (1, .int 16)] := hl
  refine lv_iload_n hx hb dX9_isOf_0 rfl (lv_at hl 0 rfl) ?_
  refine lv_iload_n hx hb dX9_isOf_1 rfl (lv_at hl 1 rfl) ?_
  refine lv_icmp_ne (tgt := 7) hx hb dX9_isOf_2 (by decide) (fun c_1 => ?_) (fun c_1 => ?_)
  · refine lv_iload_n hx hb dX9_isOf_7 rfl (lv_at hl 1 rfl) ?_
    refine lv_tableIn (tgt := 102) hx hb dX9_isOf_8 (by decide) (by decide) (by rfl) (by decide) ?_
    refine lv_iload_n hx hb dX9_isOf_102 rfl (lv_at hl 0 rfl) ?_
    refine r_ki hw (r_runS (rest := []) hC hw (c_X9_isKnot l _ _ o) 1 gX9_isOf_X9_isKnot rfl rfl rfl (by decide +kernel) ⟨Nat.le_of_ble_eq_true rfl, Nat.le_of_ble_eq_true rfl⟩ rfl hl.1 rfl (Nat.le_of_ble_eq_true rfl) dX9_isOf_103 ⟨Nat.le_of_ble_eq_true rfl, Nat.le_of_ble_eq_true rfl⟩) (fun r_3 u_4 H locs h_2 hw => ?_)
    by_cases c_5 : pKnot o
    · rw [if_pos c_5] at h_2
      subst h_2
      refine lv_if_ne (tgt := 115) hx hb dX9_isOf_106 (by decide) (fun _ => ?_) (fun c_ => absurd c_ (by decide))
      refine lv_iconst (v := 1) hx hb dX9_isOf_115 (by decide) ?_
      refine lv_goto (tgt := 120) hx hb dX9_isOf_116 (by decide) ?_
      exact r_zret hC hr (by decide) hlk hw () rfl (by simp [pOf, c_1, c_5]) (Nat.le_of_ble_eq_true rfl) (Nat.le_of_ble_eq_true rfl) dX9_isOf_120
    · rw [if_neg c_5] at h_2
      subst h_2
      refine lv_if_ne (tgt := 115) hx hb dX9_isOf_106 (by decide) (fun c_ => absurd (by decide) c_) (fun _ => ?_)
      refine lv_iload_n hx hb dX9_isOf_109 rfl (lv_at hl 0 rfl) ?_
      refine lv_bipush (v := 14) hx hb dX9_isOf_110 (by decide) ?_
      refine lv_icmp_ne (tgt := 119) hx hb dX9_isOf_112 (by decide) (fun c_6 => ?_) (fun c_6 => ?_)
      · refine lv_iconst (v := 0) hx hb dX9_isOf_119 (by decide) ?_
        exact r_zret hC hr (by decide) hlk hw () rfl (by simp [pOf, c_1, c_5, c_6]) (Nat.le_of_ble_eq_true rfl) (Nat.le_of_ble_eq_true rfl) dX9_isOf_120
      · refine lv_iconst (v := 1) hx hb dX9_isOf_115 (by decide) ?_
        refine lv_goto (tgt := 120) hx hb dX9_isOf_116 (by decide) ?_
        exact r_zret hC hr (by decide) hlk hw () rfl (by simp [pOf, c_1, c_5, c_6]) (Nat.le_of_ble_eq_true rfl) (Nat.le_of_ble_eq_true rfl) dX9_isOf_120
  · refine lv_iconst (v := 1) hx hb dX9_isOf_5 (by decide) ?_
    exact r_zret hC hr (by decide) hlk hw () rfl (by simp [pOf, c_1]) (Nat.le_of_ble_eq_true rfl) (Nat.le_of_ble_eq_true rfl) dX9_isOf_6

theorem c_X9_isOf (l : Launch) {D : va_G} {q : Nat → ClassId} (w : wT) (sz : Nat) (o k : Int32) (hk : vp_in k 17) : Met l yX9_isOf wsX9_isOf (rmz 1 20) (va_Pc [.int o, .int k] (rPre D q w sz)) (va_Qi (fun (r : Int32) (u : Unit) => r = if pOf o k then 1 else 0) (fun (u : Unit) tt => rPo D (rA w sz) w tt) (rA w sz)) 0 0 (rA w sz) := by
  obtain ⟨j, hj, rfl⟩ := vp_in_of hk (by decide)
  match j, hj with
  | 0, _ => exact c_X9_isOf_0 l w sz o
  | 1, _ => exact c_X9_isOf_1 l w sz o
  | 2, _ => exact c_X9_isOf_2 l w sz o
  | 3, _ => exact c_X9_isOf_3 l w sz o
  | 4, _ => exact c_X9_isOf_4 l w sz o
  | 5, _ => exact c_X9_isOf_5 l w sz o
  | 6, _ => exact c_X9_isOf_6 l w sz o
  | 7, _ => exact c_X9_isOf_7 l w sz o
  | 8, _ => exact c_X9_isOf_8 l w sz o
  | 9, _ => exact c_X9_isOf_9 l w sz o
  | 10, _ => exact c_X9_isOf_10 l w sz o
  | 11, _ => exact c_X9_isOf_11 l w sz o
  | 12, _ => exact c_X9_isOf_12 l w sz o
  | 13, _ => exact c_X9_isOf_13 l w sz o
  | 14, _ => exact c_X9_isOf_14 l w sz o
  | 15, _ => exact c_X9_isOf_15 l w sz o
  | 16, _ => exact c_X9_isOf_16 l w sz o
  | j + 17, hj => exact absurd hj (by omega)

