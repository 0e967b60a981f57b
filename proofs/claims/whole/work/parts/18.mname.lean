/-! the reference's public methods -/
def tld (d : Nat) (v : Int32) : Bool := match d with
  | 1 => decide (pIn v 0 7)
  | 2 => decide (pIn v 0 3)
  | 3 => decide (pIn v 0 3)
  | 4 => decide (pIn v 0 3)
  | 5 => decide (pIn v 0 7)
  | 6 => decide (pIn v 0 199)
  | 7 => decide (pIn v 0 9)
  | 8 => decide (pIn v 11 14)
  | 9 => decide (pIn v 0 16)
  | _ => true
theorem dg9 : ∀ k, k < 74 → dg k / 100 < 10 ∧ dg k / 10 % 10 < 10 ∧ dg k % 10 < 10 := by decide
def thI (κ : KS) (r : Int32) : Int32 := if pIn r 0 7 then sA κ 3 (aN r) - 1 else -1
def kdR (κ : KS) (x : Int32) : Int32 := if x = 0 then -1 else sA κ 4 (aN (x - 1))
theorem in8 {r : Int32} (h : pIn r 0 7) : vp_in r 8 := by
  obtain ⟨j, hj, e⟩ := nI_of2 (M := 7) (n := 7) (by decide) h.1 (Int32.not_lt.mp h.2)
  rw [e]; exact vp_in_nI (by omega) (by decide)
theorem in4 {r : Int32} (h : pIn r 0 3) : vp_in r 4 := by
  obtain ⟨j, hj, e⟩ := nI_of2 (M := 3) (n := 3) (by decide) h.1 (Int32.not_lt.mp h.2)
  rw [e]; exact vp_in_nI (by omega) (by decide)
theorem wf_th {κ : KS} (h : WFm κ) {r : Int32} (hn : ¬ thI κ r < 0) : vp_in (thI κ r) 60 ∧ vp_in (sA κ 5 (aN (thI κ r))) 13 := by
  by_cases hr : pIn r 0 7
  · have e : thI κ r = sA κ 3 (aN r) - 1 := if_pos hr
    rw [e] at hn ⊢
    exact h r (in8 hr) (fun q => hn (by rw [q]; decide))
  · have e : thI κ r = -1 := if_neg hr
    rw [e] at hn
    exact absurd (by decide) hn
theorem nI73 {x : Int32} (h : pIn x 0 73) : aN x < 74 ∧ x = nI (aN x) := by
  obtain ⟨j, hj, e⟩ := nI_of2 (M := 73) (n := 73) (by decide) h.1 (Int32.not_lt.mp h.2)
  have e2 : aN x = j := by rw [e]; exact nI_clamp (by omega)
  rw [e2]; exact ⟨by omega, e⟩
set_option maxHeartbeats 4000000 in
set_option maxRecDepth 100000 in
theorem c_X9_isTold_0 (l : Launch) {D : va_G} {q : Nat → ClassId} (w : wT) (sz : Nat) (v : Int32) : Met l yX9_isTold wsX9_isTold (rmz 1 22) (va_Pc [.int 0, .int v] (rPre D q w sz)) (va_Qi (fun (r : Int32) (u : Unit) => r = if tld 0 v = true then 1 else 0) (fun (u : Unit) tt => rPo D (rA w sz) w tt) (rA w sz)) 0 0 (rA w sz) := by
  refine r_start (cc := cX9_isTold) (maxL := 2) (ret := (some .boolean)) (by decide) rfl (Nat.le_of_ble_eq_true rfl) ?_
  intro p e s m below meth c ls hC hr hlk hnm hsz hw hl
  have hx := hC.1
  have hb := hC.2.1
  have hl : lv_has ls 2 [(0, .int 0), (1, .int v)] := hl
  refine lv_iload_n hx hb dX9_isTold_0 rfl (lv_at hl 0 rfl) ?_
  refine lv_tableOut (tgt := 101) hx hb dX9_isTold_1 (by decide) (by decide) ?_
  refine lv_iconst (v := 1) hx hb dX9_isTold_101 (by decide) ?_
  exact r_zret hC hr (by decide) hlk hw () rfl (if_pos rfl).symm (Nat.le_of_ble_eq_true rfl) (Nat.le_of_ble_eq_true rfl) dX9_isTold_102

set_option maxHeartbeats 4000000 in
set_option maxRecDepth 100000 in
theorem c_X9_isTold_1 (l : Launch) {D : va_G} {q : Nat → ClassId} (w : wT) (sz : Nat) (v : Int32) : Met l yX9_isTold wsX9_isTold (rmz 1 22) (va_Pc [.int 1, .int v] (rPre D q w sz)) (va_Qi (fun (r : Int32) (u : Unit) => r = if tld 1 v = true then 1 else 0) (fun (u : Unit) tt => rPo D (rA w sz) w tt) (rA w sz)) 0 0 (rA w sz) := by
  refine r_start (cc := cX9_isTold) (maxL := 2) (ret := (some .boolean)) (by decide) rfl (Nat.le_of_ble_eq_true rfl) ?_
  intro p e s m below meth c ls hC hr hlk hnm hsz hw hl
  have hx := hC.1
  have hb := hC.2.1
  have hl : lv_has ls 2 [(0, .int 1), (1, .int v)] := hl
  refine lv_iload_n hx hb dX9_isTold_0 rfl (lv_at hl 0 rfl) ?_
  refine lv_tableIn (tgt := 52) hx hb dX9_isTold_1 (by decide) (by decide) (by rfl) (by decide) ?_
  refine lv_iload_n hx hb dX9_isTold_52 rfl (lv_at hl 1 rfl) ?_
  refine lv_iconst (v := 0) hx hb dX9_isTold_53 (by decide) ?_
  refine lv_bipush (v := 7) hx hb dX9_isTold_54 (by decide) ?_
  refine r_ki hw (r_runS (rest := []) hC hw (c_X9_isIn l _ _ v 0 7) 3 gX9_isTold_X9_isIn rfl rfl rfl (by decide +kernel) ⟨Nat.le_of_ble_eq_true rfl, Nat.le_of_ble_eq_true rfl⟩ rfl hl.1 rfl (Nat.le_of_ble_eq_true rfl) dX9_isTold_56 ⟨Nat.le_of_ble_eq_true rfl, Nat.le_of_ble_eq_true rfl⟩) (fun r_2 u_3 H locs h_1 hw => ?_)
  by_cases c_4 : pIn v 0 7
  · rw [if_pos c_4] at h_1
    subst h_1
    exact r_zret hC hr (by decide) hlk hw () rfl (if_pos (decide_eq_true c_4)).symm (Nat.le_of_ble_eq_true rfl) (Nat.le_of_ble_eq_true rfl) dX9_isTold_59
  · rw [if_neg c_4] at h_1
    subst h_1
    exact r_zret hC hr (by decide) hlk hw () rfl (if_neg (fun h => c_4 (of_decide_eq_true h))).symm (Nat.le_of_ble_eq_true rfl) (Nat.le_of_ble_eq_true rfl) dX9_isTold_59

set_option maxHeartbeats 4000000 in
set_option maxRecDepth 100000 in
theorem c_X9_isTold_2 (l : Launch) {D : va_G} {q : Nat → ClassId} (w : wT) (sz : Nat) (v : Int32) : Met l yX9_isTold wsX9_isTold (rmz 1 22) (va_Pc [.int 2, .int v] (rPre D q w sz)) (va_Qi (fun (r : Int32) (u : Unit) => r = if tld 2 v = true then 1 else 0) (fun (u : Unit) tt => rPo D (rA w sz) w tt) (rA w sz)) 0 0 (rA w sz) := by
  refine r_start (cc := cX9_isTold) (maxL := 2) (ret := (some .boolean)) (by decide) rfl (Nat.le_of_ble_eq_true rfl) ?_
  intro p e s m below meth c ls hC hr hlk hnm hsz hw hl
  have hx := hC.1
  have hb := hC.2.1
  have hl : lv_has ls 2 [(0, .int 2), (1, .int v)] := hl
  refine lv_iload_n hx hb dX9_isTold_0 rfl (lv_at hl 0 rfl) ?_
  refine lv_tableIn (tgt := 60) hx hb dX9_isTold_1 (by decide) (by decide) (by rfl) (by decide) ?_
  refine lv_iload_n hx hb dX9_isTold_60 rfl (lv_at hl 1 rfl) ?_
  refine lv_iconst (v := 0) hx hb dX9_isTold_61 (by decide) ?_
  refine lv_iconst (v := 3) hx hb dX9_isTold_62 (by decide) ?_
  refine r_ki hw (r_runS (rest := []) hC hw (c_X9_isIn l _ _ v 0 3) 3 gX9_isTold_X9_isIn rfl rfl rfl (by decide +kernel) ⟨Nat.le_of_ble_eq_true rfl, Nat.le_of_ble_eq_true rfl⟩ rfl hl.1 rfl (Nat.le_of_ble_eq_true rfl) dX9_isTold_63 ⟨Nat.le_of_ble_eq_true rfl, Nat.le_of_ble_eq_true rfl⟩) (fun r_2 u_3 H locs h_1 hw => ?_)
  by_cases c_4 : pIn v 0 3
  · rw [if_pos c_4] at h_1
    subst h_1
    exact r_zret hC hr (by decide) hlk hw () rfl (if_pos (decide_eq_true c_4)).symm (Nat.le_of_ble_eq_true rfl) (Nat.le_of_ble_eq_true rfl) dX9_isTold_66
  · rw [if_neg c_4] at h_1
    subst h_1
    exact r_zret hC hr (by decide) hlk hw () rfl (if_neg (fun h => c_4 (of_decide_eq_true h))).symm (Nat.le_of_ble_eq_true rfl) (Nat.le_of_ble_eq_true rfl) dX9_isTold_66

set_option maxHeartbeats 4000000 in
set_option maxRecDepth 100000 in
theorem c_X9_isTold_3 (l : Launch) {D : va_G} {q : Nat → ClassId} (w : wT) (sz : Nat) (v : Int32) : Met l yX9_isTold wsX9_isTold (rmz 1 22) (va_Pc [.int 3, .int v] (rPre D q w sz)) (va_Qi (fun (r : Int32) (u : Unit) => r = if tld 3 v = true then 1 else 0) (fun (u : Unit) tt => rPo D (rA w sz) w tt) (rA w sz)) 0 0 (rA w sz) := by
  refine r_start (cc := cX9_isTold) (maxL := 2) (ret := (some .boolean)) (by decide) rfl (Nat.le_of_ble_eq_true rfl) ?_
  intro p e s m below meth c ls hC hr hlk hnm hsz hw hl
  have hx := hC.1
  have hb := hC.2.1
  have hl : lv_has ls 2 [(0, .int 3), (1, .int v)] := hl
  refine lv_iload_n hx hb dX9_isTold_0 rfl (lv_at hl 0 rfl) ?_
  refine lv_tableIn (tgt := 60) hx hb dX9_isTold_1 (by decide) (by decide) (by rfl) (by decide) ?_
  refine lv_iload_n hx hb dX9_isTold_60 rfl (lv_at hl 1 rfl) ?_
  refine lv_iconst (v := 0) hx hb dX9_isTold_61 (by decide) ?_
  refine lv_iconst (v := 3) hx hb dX9_isTold_62 (by decide) ?_
  refine r_ki hw (r_runS (rest := []) hC hw (c_X9_isIn l _ _ v 0 3) 3 gX9_isTold_X9_isIn rfl rfl rfl (by decide +kernel) ⟨Nat.le_of_ble_eq_true rfl, Nat.le_of_ble_eq_true rfl⟩ rfl hl.1 rfl (Nat.le_of_ble_eq_true rfl) dX9_isTold_63 ⟨Nat.le_of_ble_eq_true rfl, Nat.le_of_ble_eq_true rfl⟩) (fun r_2 u_3 H locs h_1 hw => ?_)
  by_cases c_4 : pIn v 0 3
  · rw [if_pos c_4] at h_1
    subst h_1
    exact r_zret hC hr (by decide) hlk hw () rfl (if_pos (decide_eq_true c_4)).symm (Nat.le_of_ble_eq_true rfl) (Nat.le_of_ble_eq_true rfl) dX9_isTold_66
  · rw [if_neg c_4] at h_1
    subst h_1
    exact r_zret hC hr (by decide) hlk hw () rfl (if_neg (fun h => c_4 (of_decide_eq_true h))).symm (Nat.le_of_ble_eq_true rfl) (Nat.le_of_ble_eq_true rfl) dX9_isTold_66

set_option maxHeartbeats 4000000 in
set_option maxRecDepth 100000 in
theorem c_X9_isTold_4 (l : Launch) {D : va_G} {q : Nat → ClassId} (w : wT) (sz : Nat) (v : Int32) : Met l yX9_isTold wsX9_isTold (rmz 1 22) (va_Pc [.int 4, .int v] (rPre D q w sz)) (va_Qi (fun (r : Int32) (u : Unit) => r = if tld 4 v = true then 1 else 0) (fun (u : Unit) tt => rPo D (rA w sz) w tt) (rA w sz)) 0 0 (rA w sz) := by
  refine r_start (cc := cX9_isTold) (maxL := 2) (ret := (some .boolean)) (by decide) rfl (Nat.le_of_ble_eq_true rfl) ?_
  intro p e s m below meth c ls hC hr hlk hnm hsz hw hl
  have hx := hC.1
  have hb := hC.2.1
  have hl : lv_has ls 2 [(0, .int 4), (1, .int v)] := hl
  refine lv_iload_n hx hb dX9_isTold_0 rfl (lv_at hl 0 rfl) ?_
  refine lv_tableIn (tgt := 60) hx hb dX9_isTold_1 (by decide) (by decide) (by rfl) (by decide) ?_
  refine lv_iload_n hx hb dX9_isTold_60 rfl (lv_at hl 1 rfl) ?_
  refine lv_iconst (v := 0) hx hb dX9_isTold_61 (by decide) ?_
  refine lv_iconst (v := 3) hx hb dX9_isTold_62 (by decide) ?_
  refine r_ki hw (r_runS (rest := []) hC hw (c_X9_isIn l _ _ v 0 3) 3 gX9_isTold_X9_isIn rfl rfl rfl (by decide +kernel) ⟨Nat.le_of_ble_eq_true rfl, Nat.le_of_ble_eq_true rfl⟩ rfl hl.1 rfl (Nat.le_of_ble_eq_true rfl) dX9_isTold_63 ⟨Nat.le_of_ble_eq_true rfl, Nat.le_of_ble_eq_true rfl⟩) (fun r_2 u_3 H locs h_1 hw => ?_)
  by_cases c_4 : pIn v 0 3
  · rw [if_pos c_4] at h_1
    subst h_1
    exact r_zret hC hr (by decide) hlk hw () rfl (if_pos (decide_eq_true c_4)).symm (Nat.le_of_ble_eq_true rfl) (Nat.le_of_ble_eq_true rfl) dX9_isTold_66
  · rw [if_neg c_4] at h_1
    subst h_1
    exact r_zret hC hr (by decide) hlk hw () rfl (if_neg (fun h => c_4 (of_decide_eq_true h))).symm (Nat.le_of_ble_eq_true rfl) (Nat.le_of_ble_eq_true rfl) dX9_isTold_66

set_option maxHeartbeats 4000000 in
set_option maxRecDepth 100000 in
theorem c_X9_isTold_5 (l : Launch) {D : va_G} {q : Nat → ClassId} (w : wT) (sz : Nat) (v : Int32) : Met l yX9_isTold wsX9_isTold (rmz 1 22) (va_Pc [.int 5, .int v] (rPre D q w sz)) (va_Qi (fun (r : Int32) (u : Unit) => r = if tld 5 v = true then 1 else 0) (fun (u : Unit) tt => rPo D (rA w sz) w tt) (rA w sz)) 0 0 (rA w sz) := by
  refine r_start (cc := cX9_isTold) (maxL := 2) (ret := (some .boolean)) (by decide) rfl (Nat.le_of_ble_eq_true rfl) ?_
  intro p e s m below meth c ls hC hr hlk hnm hsz hw hl
  have hx := hC.1
  have hb := hC.2.1
  have hl : lv_has ls 2 [(0, .int 5), (1, .int v)] := hl
  refine lv_iload_n hx hb dX9_isTold_0 rfl (lv_at hl 0 rfl) ?_
  refine lv_tableIn (tgt := 52) hx hb dX9_isTold_1 (by decide) (by decide) (by rfl) (by decide) ?_
  refine lv_iload_n hx hb dX9_isTold_52 rfl (lv_at hl 1 rfl) ?_
  refine lv_iconst (v := 0) hx hb dX9_isTold_53 (by decide) ?_
  refine lv_bipush (v := 7) hx hb dX9_isTold_54 (by decide) ?_
  refine r_ki hw (r_runS (rest := []) hC hw (c_X9_isIn l _ _ v 0 7) 3 gX9_isTold_X9_isIn rfl rfl rfl (by decide +kernel) ⟨Nat.le_of_ble_eq_true rfl, Nat.le_of_ble_eq_true rfl⟩ rfl hl.1 rfl (Nat.le_of_ble_eq_true rfl) dX9_isTold_56 ⟨Nat.le_of_ble_eq_true rfl, Nat.le_of_ble_eq_true rfl⟩) (fun r_2 u_3 H locs h_1 hw => ?_)
  by_cases c_4 : pIn v 0 7
  · rw [if_pos c_4] at h_1
    subst h_1
    exact r_zret hC hr (by decide) hlk hw () rfl (if_pos (decide_eq_true c_4)).symm (Nat.le_of_ble_eq_true rfl) (Nat.le_of_ble_eq_true rfl) dX9_isTold_59
  · rw [if_neg c_4] at h_1
    subst h_1
    exact r_zret hC hr (by decide) hlk hw () rfl (if_neg (fun h => c_4 (of_decide_eq_true h))).symm (Nat.le_of_ble_eq_true rfl) (Nat.le_of_ble_eq_true rfl) dX9_isTold_59

set_option maxHeartbeats 4000000 in
set_option maxRecDepth 100000 in
theorem c_X9_isTold_6 (l : Launch) {D : va_G} {q : Nat → ClassId} (w : wT) (sz : Nat) (v : Int32) : Met l yX9_isTold wsX9_isTold (rmz 1 22) (va_Pc [.int 6, .int v] (rPre D q w sz)) (va_Qi (fun (r : Int32) (u : Unit) => r = if tld 6 v = true then 1 else 0) (fun (u : Unit) tt => rPo D (rA w sz) w tt) (rA w sz)) 0 0 (rA w sz) := by
  refine r_start (cc := cX9_isTold) (maxL := 2) (ret := (some .boolean)) (by decide) rfl (Nat.le_of_ble_eq_true rfl) ?_
  intro p e s m below meth c ls hC hr hlk hnm hsz hw hl
  have hx := hC.1
  have hb := hC.2.1
  have hl : lv_has ls 2 [(0, .int 6), (1, .int v)] := hl
  refine lv_iload_n hx hb dX9_isTold_0 rfl (lv_at hl 0 rfl) ?_
  refine lv_tableIn (tgt := 67) hx hb dX9_isTold_1 (by decide) (by decide) (by rfl) (by decide) ?_
  refine lv_iload_n hx hb dX9_isTold_67 rfl (lv_at hl 1 rfl) ?_
  refine lv_iconst (v := 0) hx hb dX9_isTold_68 (by decide) ?_
  refine lv_sipush (v := 199) hx hb dX9_isTold_69 (by decide) ?_
  refine r_ki hw (r_runS (rest := []) hC hw (c_X9_isIn l _ _ v 0 199) 3 gX9_isTold_X9_isIn rfl rfl rfl (by decide +kernel) ⟨Nat.le_of_ble_eq_true rfl, Nat.le_of_ble_eq_true rfl⟩ rfl hl.1 rfl (Nat.le_of_ble_eq_true rfl) dX9_isTold_72 ⟨Nat.le_of_ble_eq_true rfl, Nat.le_of_ble_eq_true rfl⟩) (fun r_2 u_3 H locs h_1 hw => ?_)
  by_cases c_4 : pIn v 0 199
  · rw [if_pos c_4] at h_1
    subst h_1
    exact r_zret hC hr (by decide) hlk hw () rfl (if_pos (decide_eq_true c_4)).symm (Nat.le_of_ble_eq_true rfl) (Nat.le_of_ble_eq_true rfl) dX9_isTold_75
  · rw [if_neg c_4] at h_1
    subst h_1
    exact r_zret hC hr (by decide) hlk hw () rfl (if_neg (fun h => c_4 (of_decide_eq_true h))).symm (Nat.le_of_ble_eq_true rfl) (Nat.le_of_ble_eq_true rfl) dX9_isTold_75

set_option maxHeartbeats 4000000 in
set_option maxRecDepth 100000 in
theorem c_X9_isTold_7 (l : Launch) {D : va_G} {q : Nat → ClassId} (w : wT) (sz : Nat) (v : Int32) : Met l yX9_isTold wsX9_isTold (rmz 1 22) (va_Pc [.int 7, .int v] (rPre D q w sz)) (va_Qi (fun (r : Int32) (u : Unit) => r = if tld 7 v = true then 1 else 0) (fun (u : Unit) tt => rPo D (rA w sz) w tt) (rA w sz)) 0 0 (rA w sz) := by
  refine r_start (cc := cX9_isTold) (maxL := 2) (ret := (some .boolean)) (by decide) rfl (Nat.le_of_ble_eq_true rfl) ?_
  intro p e s m below meth c ls hC hr hlk hnm hsz hw hl
  have hx := hC.1
  have hb := hC.2.1
  have hl : lv_has ls 2 [(0, .int 7), (1, .int v)] := hl
  refine lv_iload_n hx hb dX9_isTold_0 rfl (lv_at hl 0 rfl) ?_
  refine lv_tableIn (tgt := 76) hx hb dX9_isTold_1 (by decide) (by decide) (by rfl) (by decide) ?_
  refine lv_iload_n hx hb dX9_isTold_76 rfl (lv_at hl 1 rfl) ?_
  refine lv_iconst (v := 0) hx hb dX9_isTold_77 (by decide) ?_
  refine lv_bipush (v := 9) hx hb dX9_isTold_78 (by decide) ?_
  refine r_ki hw (r_runS (rest := []) hC hw (c_X9_isIn l _ _ v 0 9) 3 gX9_isTold_X9_isIn rfl rfl rfl (by decide +kernel) ⟨Nat.le_of_ble_eq_true rfl, Nat.le_of_ble_eq_true rfl⟩ rfl hl.1 rfl (Nat.le_of_ble_eq_true rfl) dX9_isTold_80 ⟨Nat.le_of_ble_eq_true rfl, Nat.le_of_ble_eq_true rfl⟩) (fun r_2 u_3 H locs h_1 hw => ?_)
  by_cases c_4 : pIn v 0 9
  · rw [if_pos c_4] at h_1
    subst h_1
    exact r_zret hC hr (by decide) hlk hw () rfl (if_pos (decide_eq_true c_4)).symm (Nat.le_of_ble_eq_true rfl) (Nat.le_of_ble_eq_true rfl) dX9_isTold_83
  · rw [if_neg c_4] at h_1
    subst h_1
    exact r_zret hC hr (by decide) hlk hw () rfl (if_neg (fun h => c_4 (of_decide_eq_true h))).symm (Nat.le_of_ble_eq_true rfl) (Nat.le_of_ble_eq_true rfl) dX9_isTold_83

set_option maxHeartbeats 4000000 in
set_option maxRecDepth 100000 in
theorem c_X9_isTold_8 (l : Launch) {D : va_G} {q : Nat → ClassId} (w : wT) (sz : Nat) (v : Int32) : Met l yX9_isTold wsX9_isTold (rmz 1 22) (va_Pc [.int 8, .int v] (rPre D q w sz)) (va_Qi (fun (r : Int32) (u : Unit) => r = if tld 8 v = true then 1 else 0) (fun (u : Unit) tt => rPo D (rA w sz) w tt) (rA w sz)) 0 0 (rA w sz) := by
  refine r_start (cc := cX9_isTold) (maxL := 2) (ret := (some .boolean)) (by decide) rfl (Nat.le_of_ble_eq_true rfl) ?_
  intro p e s m below meth c ls hC hr hlk hnm hsz hw hl
  have hx := hC.1
  have hb := hC.2.1
  have hl : lv_has ls 2 [(0, .int 8), (1, .int v)] := hl
  refine lv_iload_n hx hb dX9_isTold_0 rfl (lv_at hl 0 rfl) ?_
  refine lv_tableIn (tgt := 84) hx hb dX9_isTold_1 (by decide) (by decide) (by rfl) (by decide) ?_
  refine lv_iload_n hx hb dX9_isTold_84 rfl (lv_at hl 1 rfl) ?_
  refine lv_bipush (v := 11) hx hb dX9_isTold_85 (by decide) ?_
  refine lv_bipush (v := 14) hx hb dX9_isTold_87 (by decide) ?_
  refine r_ki hw (r_runS (rest := []) hC hw (c_X9_isIn l _ _ v 11 14) 3 gX9_isTold_X9_isIn rfl rfl rfl (by decide +kernel) ⟨Nat.le_of_ble_eq_true rfl, Nat.le_of_ble_eq_true rfl⟩ rfl hl.1 rfl (Nat.le_of_ble_eq_true rfl) dX9_isTold_89 ⟨Nat.le_of_ble_eq_true rfl, Nat.le_of_ble_eq_true rfl⟩) (fun r_2 u_3 H locs h_1 hw => ?_)
  by_cases c_4 : pIn v 11 14
  · rw [if_pos c_4] at h_1
    subst h_1
    exact r_zret hC hr (by decide) hlk hw () rfl (if_pos (decide_eq_true c_4)).symm (Nat.le_of_ble_eq_true rfl) (Nat.le_of_ble_eq_true rfl) dX9_isTold_92
  · rw [if_neg c_4] at h_1
    subst h_1
    exact r_zret hC hr (by decide) hlk hw () rfl (if_neg (fun h => c_4 (of_decide_eq_true h))).symm (Nat.le_of_ble_eq_true rfl) (Nat.le_of_ble_eq_true rfl) dX9_isTold_92

set_option maxHeartbeats 4000000 in
set_option maxRecDepth 100000 in
theorem c_X9_isTold_9 (l : Launch) {D : va_G} {q : Nat → ClassId} (w : wT) (sz : Nat) (v : Int32) : Met l yX9_isTold wsX9_isTold (rmz 1 22) (va_Pc [.int 9, .int v] (rPre D q w sz)) (va_Qi (fun (r : Int32) (u : Unit) => r = if tld 9 v = true then 1 else 0) (fun (u : Unit) tt => rPo D (rA w sz) w tt) (rA w sz)) 0 0 (rA w sz) := by
  refine r_start (cc := cX9_isTold) (maxL := 2) (ret := (some .boolean)) (by decide) rfl (Nat.le_of_ble_eq_true rfl) ?_
  intro p e s m below meth c ls hC hr hlk hnm hsz hw hl
  have hx := hC.1
  have hb := hC.2.1
  have hl : lv_has ls 2 [(0, .int 9), (1, .int v)] := hl
  refine lv_iload_n hx hb dX9_isTold_0 rfl (lv_at hl 0 rfl) ?_
  refine lv_tableIn (tgt := 93) hx hb dX9_isTold_1 (by decide) (by decide) (by rfl) (by decide) ?_
  refine lv_iload_n hx hb dX9_isTold_93 rfl (lv_at hl 1 rfl) ?_
  refine lv_iconst (v := 0) hx hb dX9_isTold_94 (by decide) ?_
  refine lv_bipush (v := 16) hx hb dX9_isTold_95 (by decide) ?_
  refine r_ki hw (r_runS (rest := []) hC hw (c_X9_isIn l _ _ v 0 16) 3 gX9_isTold_X9_isIn rfl rfl rfl (by decide +kernel) ⟨Nat.le_of_ble_eq_true rfl, Nat.le_of_ble_eq_true rfl⟩ rfl hl.1 rfl (Nat.le_of_ble_eq_true rfl) dX9_isTold_97 ⟨Nat.le_of_ble_eq_true rfl, Nat.le_of_ble_eq_true rfl⟩) (fun r_2 u_3 H locs h_1 hw => ?_)
  by_cases c_4 : pIn v 0 16
  · rw [if_pos c_4] at h_1
    subst h_1
    exact r_zret hC hr (by decide) hlk hw () rfl (if_pos (decide_eq_true c_4)).symm (Nat.le_of_ble_eq_true rfl) (Nat.le_of_ble_eq_true rfl) dX9_isTold_100
  · rw [if_neg c_4] at h_1
    subst h_1
    exact r_zret hC hr (by decide) hlk hw () rfl (if_neg (fun h => c_4 (of_decide_eq_true h))).symm (Nat.le_of_ble_eq_true rfl) (Nat.le_of_ble_eq_true rfl) dX9_isTold_100

theorem c_X9_isTold (l : Launch) {D : va_G} {q : Nat → ClassId} (w : wT) (sz : Nat) (d : Nat) (hd : d < 10) (v : Int32) : Met l yX9_isTold wsX9_isTold (rmz 1 22) (va_Pc [.int (nI d), .int v] (rPre D q w sz)) (va_Qi (fun (r : Int32) (u : Unit) => r = if tld d v = true then 1 else 0) (fun (u : Unit) tt => rPo D (rA w sz) w tt) (rA w sz)) 0 0 (rA w sz) := by
  match d, hd with
  | 0, _ => exact c_X9_isTold_0 l w sz v
  | 1, _ => exact c_X9_isTold_1 l w sz v
  | 2, _ => exact c_X9_isTold_2 l w sz v
  | 3, _ => exact c_X9_isTold_3 l w sz v
  | 4, _ => exact c_X9_isTold_4 l w sz v
  | 5, _ => exact c_X9_isTold_5 l w sz v
  | 6, _ => exact c_X9_isTold_6 l w sz v
  | 7, _ => exact c_X9_isTold_7 l w sz v
  | 8, _ => exact c_X9_isTold_8 l w sz v
  | 9, _ => exact c_X9_isTold_9 l w sz v
  | d + 10, hd => exact absurd hd (by omega)

set_option maxHeartbeats 4000000 in
set_option maxRecDepth 100000 in
theorem c_X9_names_0 (l : Launch) {D : va_G} {q : Nat → ClassId} (w : wT) (sz : Nat) (wh : Int32) : Met l yX9_names wsX9_names (rmz 1 22) (va_Pc [.int 0, .int wh] (rPre D q w sz)) (va_Qi (fun (r : Int32) (u : Unit) => r = if wh = 0 then 0 else if wh = 1 then 0 else 0) (fun (u : Unit) tt => rPo D (rA w sz) w tt) (rA w sz)) 0 0 (rA w sz) := by
  refine r_start (cc := cX9_names) (maxL := 6) (ret := (some .int)) (by decide) rfl (Nat.le_of_ble_eq_true rfl) ?_
  intro p e s m below meth c ls hC hr hlk hnm hsz hw hl
  have hx := hC.1
  have hb := hC.2.1
  have hl : lv_has ls 6 [(0, .int 0), (1, .int wh)] := hl
  refine lv_iconst (v := 0) hx hb dX9_names_0 (by decide) ?_
  refine lv_istore_n (lv' := [(2, .int 0), (0, .int 0), (1, .int wh)]) hx hb dX9_names_1 rfl hl (by decide) rfl (fun ls hl => ?_)
  refine lv_iconst (v := 0) hx hb dX9_names_2 (by decide) ?_
  refine lv_istore_n (lv' := [(3, .int 0), (2, .int 0), (0, .int 0), (1, .int wh)]) hx hb dX9_names_3 rfl hl (by decide) rfl (fun ls hl => ?_)
  refine lv_iconst (v := 0) hx hb dX9_names_4 (by decide) ?_
  refine lv_istore (lv' := [(4, .int 0), (3, .int 0), (2, .int 0), (0, .int 0), (1, .int wh)]) hx hb dX9_names_5 hl (by decide) rfl (fun ls hl => ?_)
  refine lv_iload_n hx hb dX9_names_7 rfl (lv_at hl 3 rfl) ?_
  refine lv_iconst (v := 1) hx hb dX9_names_8 (by decide) ?_
  refine lv_icmp_eq (tgt := 24) hx hb dX9_names_9 (by decide) (fun c_ => absurd c_ (by decide)) (fun _ => ?_)
  refine lv_iload_n hx hb dX9_names_12 rfl (lv_at hl 3 rfl) ?_
  refine lv_bipush (v := 72) hx hb dX9_names_13 (by decide) ?_
  refine lv_icmp_eq (tgt := 24) hx hb dX9_names_15 (by decide) (fun c_ => absurd c_ (by decide)) (fun _ => ?_)
  refine lv_iload_n hx hb dX9_names_18 rfl (lv_at hl 3 rfl) ?_
  refine lv_bipush (v := 73) hx hb dX9_names_19 (by decide) ?_
  refine lv_icmp_ne (tgt := 29) hx hb dX9_names_21 (by decide) (fun _ => ?_) (fun c_ => absurd c_ (by decide))
  refine lv_iload_n hx hb dX9_names_29 rfl (lv_at hl 3 rfl) ?_
  refine lv_iconst (v := 2) hx hb dX9_names_30 (by decide) ?_
  refine lv_icmp_ne (tgt := 39) hx hb dX9_names_31 (by decide) (fun _ => ?_) (fun c_ => absurd c_ (by decide))
  refine lv_iload_n hx hb dX9_names_39 rfl (lv_at hl 3 rfl) ?_
  refine lv_iconst (v := 3) hx hb dX9_names_40 (by decide) ?_
  refine lv_icmp_ne (tgt := 51) hx hb dX9_names_41 (by decide) (fun _ => ?_) (fun c_ => absurd c_ (by decide))
  refine lv_iload_n hx hb dX9_names_51 rfl (lv_at hl 3 rfl) ?_
  refine lv_iconst (v := 4) hx hb dX9_names_52 (by decide) ?_
  refine lv_bipush (v := 8) hx hb dX9_names_53 (by decide) ?_
  refine r_ki hw (r_runS (rest := []) hC hw (c_X9_isIn l _ _ 0 4 8) 3 gX9_names_X9_isIn rfl rfl rfl (by decide +kernel) ⟨Nat.le_of_ble_eq_true rfl, Nat.le_of_ble_eq_true rfl⟩ rfl hl.1 rfl (Nat.le_of_ble_eq_true rfl) dX9_names_55 ⟨Nat.le_of_ble_eq_true rfl, Nat.le_of_ble_eq_true rfl⟩) (fun r_2 u_3 H locs h_1 hw => ?_)
  rw [if_neg (by decide)] at h_1
  subst h_1
  refine lv_if_ne (tgt := 67) hx hb dX9_names_58 (by decide) (fun c_ => absurd (by decide) c_) (fun _ => ?_)
  refine lv_iload_n hx hb dX9_names_61 rfl (lv_at hl 3 rfl) ?_
  refine lv_bipush (v := 25) hx hb dX9_names_62 (by decide) ?_
  refine lv_icmp_ne (tgt := 77) hx hb dX9_names_64 (by decide) (fun _ => ?_) (fun c_ => absurd c_ (by decide))
  refine lv_iload_n hx hb dX9_names_77 rfl (lv_at hl 3 rfl) ?_
  refine lv_bipush (v := 9) hx hb dX9_names_78 (by decide) ?_
  refine lv_bipush (v := 12) hx hb dX9_names_80 (by decide) ?_
  refine r_ki hw (r_runS (rest := []) hC hw (c_X9_isIn l _ _ 0 9 12) 3 gX9_names_X9_isIn rfl rfl rfl (by decide +kernel) ⟨Nat.le_of_ble_eq_true rfl, Nat.le_of_ble_eq_true rfl⟩ rfl hl.1 rfl (Nat.le_of_ble_eq_true rfl) dX9_names_82 ⟨Nat.le_of_ble_eq_true rfl, Nat.le_of_ble_eq_true rfl⟩) (fun r_5 u_6 H locs h_4 hw => ?_)
  rw [if_neg (by decide)] at h_4
  subst h_4
  refine lv_if_eq (tgt := 98) hx hb dX9_names_85 (by decide) (fun _ => ?_) (fun c_ => absurd (by decide) c_)
  refine lv_iload_n hx hb dX9_names_98 rfl (lv_at hl 3 rfl) ?_
  refine lv_bipush (v := 13) hx hb dX9_names_99 (by decide) ?_
  refine lv_bipush (v := 24) hx hb dX9_names_101 (by decide) ?_
  refine r_ki hw (r_runS (rest := []) hC hw (c_X9_isIn l _ _ 0 13 24) 3 gX9_names_X9_isIn rfl rfl rfl (by decide +kernel) ⟨Nat.le_of_ble_eq_true rfl, Nat.le_of_ble_eq_true rfl⟩ rfl hl.1 rfl (Nat.le_of_ble_eq_true rfl) dX9_names_103 ⟨Nat.le_of_ble_eq_true rfl, Nat.le_of_ble_eq_true rfl⟩) (fun r_8 u_9 H locs h_7 hw => ?_)
  rw [if_neg (by decide)] at h_7
  subst h_7
  refine lv_if_ne (tgt := 115) hx hb dX9_names_106 (by decide) (fun c_ => absurd (by decide) c_) (fun _ => ?_)
  refine lv_iload_n hx hb dX9_names_109 rfl (lv_at hl 3 rfl) ?_
  refine lv_bipush (v := 26) hx hb dX9_names_110 (by decide) ?_
  refine lv_icmp_ne (tgt := 270) hx hb dX9_names_112 (by decide) (fun _ => ?_) (fun c_ => absurd c_ (by decide))
  refine lv_iload_n hx hb dX9_names_270 rfl (lv_at hl 3 rfl) ?_
  refine lv_bipush (v := 27) hx hb dX9_names_271 (by decide) ?_
  refine lv_icmp_eq (tgt := 282) hx hb dX9_names_273 (by decide) (fun c_ => absurd c_ (by decide)) (fun _ => ?_)
  refine lv_iload_n hx hb dX9_names_276 rfl (lv_at hl 3 rfl) ?_
  refine lv_bipush (v := 29) hx hb dX9_names_277 (by decide) ?_
  refine lv_icmp_ne (tgt := 288) hx hb dX9_names_279 (by decide) (fun _ => ?_) (fun c_ => absurd c_ (by decide))
  refine lv_iload_n hx hb dX9_names_288 rfl (lv_at hl 3 rfl) ?_
  refine lv_bipush (v := 28) hx hb dX9_names_289 (by decide) ?_
  refine lv_icmp_ne (tgt := 302) hx hb dX9_names_291 (by decide) (fun _ => ?_) (fun c_ => absurd c_ (by decide))
  refine lv_iload_n hx hb dX9_names_302 rfl (lv_at hl 3 rfl) ?_
  refine lv_bipush (v := 31) hx hb dX9_names_303 (by decide) ?_
  refine lv_bipush (v := 38) hx hb dX9_names_305 (by decide) ?_
  refine r_ki hw (r_runS (rest := []) hC hw (c_X9_isIn l _ _ 0 31 38) 3 gX9_names_X9_isIn rfl rfl rfl (by decide +kernel) ⟨Nat.le_of_ble_eq_true rfl, Nat.le_of_ble_eq_true rfl⟩ rfl hl.1 rfl (Nat.le_of_ble_eq_true rfl) dX9_names_307 ⟨Nat.le_of_ble_eq_true rfl, Nat.le_of_ble_eq_true rfl⟩) (fun r_11 u_12 H locs h_10 hw => ?_)
  rw [if_neg (by decide)] at h_10
  subst h_10
  refine lv_if_eq (tgt := 411) hx hb dX9_names_310 (by decide) (fun _ => ?_) (fun c_ => absurd (by decide) c_)
  refine lv_iload_n hx hb dX9_names_411 rfl (lv_at hl 3 rfl) ?_
  refine lv_bipush (v := 39) hx hb dX9_names_412 (by decide) ?_
  refine lv_bipush (v := 58) hx hb dX9_names_414 (by decide) ?_
  refine r_ki hw (r_runS (rest := []) hC hw (c_X9_isIn l _ _ 0 39 58) 3 gX9_names_X9_isIn rfl rfl rfl (by decide +kernel) ⟨Nat.le_of_ble_eq_true rfl, Nat.le_of_ble_eq_true rfl⟩ rfl hl.1 rfl (Nat.le_of_ble_eq_true rfl) dX9_names_416 ⟨Nat.le_of_ble_eq_true rfl, Nat.le_of_ble_eq_true rfl⟩) (fun r_14 u_15 H locs h_13 hw => ?_)
  rw [if_neg (by decide)] at h_13
  subst h_13
  refine lv_if_eq (tgt := 483) hx hb dX9_names_419 (by decide) (fun _ => ?_) (fun c_ => absurd (by decide) c_)
  refine lv_iload_n hx hb dX9_names_483 rfl (lv_at hl 3 rfl) ?_
  refine lv_bipush (v := 59) hx hb dX9_names_484 (by decide) ?_
  refine lv_bipush (v := 66) hx hb dX9_names_486 (by decide) ?_
  refine r_ki hw (r_runS (rest := []) hC hw (c_X9_isIn l _ _ 0 59 66) 3 gX9_names_X9_isIn rfl rfl rfl (by decide +kernel) ⟨Nat.le_of_ble_eq_true rfl, Nat.le_of_ble_eq_true rfl⟩ rfl hl.1 rfl (Nat.le_of_ble_eq_true rfl) dX9_names_488 ⟨Nat.le_of_ble_eq_true rfl, Nat.le_of_ble_eq_true rfl⟩) (fun r_17 u_18 H locs h_16 hw => ?_)
  rw [if_neg (by decide)] at h_16
  subst h_16
  refine lv_if_eq (tgt := 546) hx hb dX9_names_491 (by decide) (fun _ => ?_) (fun c_ => absurd (by decide) c_)
  refine lv_iload_n hx hb dX9_names_546 rfl (lv_at hl 3 rfl) ?_
  refine lv_bipush (v := 67) hx hb dX9_names_547 (by decide) ?_
  refine lv_icmp_ne (tgt := 562) hx hb dX9_names_549 (by decide) (fun _ => ?_) (fun c_ => absurd c_ (by decide))
  refine lv_iload_n hx hb dX9_names_562 rfl (lv_at hl 3 rfl) ?_
  refine lv_bipush (v := 68) hx hb dX9_names_563 (by decide) ?_
  refine lv_icmp_eq (tgt := 574) hx hb dX9_names_565 (by decide) (fun c_ => absurd c_ (by decide)) (fun _ => ?_)
  refine lv_iload_n hx hb dX9_names_568 rfl (lv_at hl 3 rfl) ?_
  refine lv_bipush (v := 69) hx hb dX9_names_569 (by decide) ?_
  refine lv_icmp_ne (tgt := 579) hx hb dX9_names_571 (by decide) (fun _ => ?_) (fun c_ => absurd c_ (by decide))
  refine lv_iload_n hx hb dX9_names_579 rfl (lv_at hl 3 rfl) ?_
  refine lv_bipush (v := 70) hx hb dX9_names_580 (by decide) ?_
  refine lv_icmp_eq (tgt := 591) hx hb dX9_names_582 (by decide) (fun c_ => absurd c_ (by decide)) (fun _ => ?_)
  refine lv_iload_n hx hb dX9_names_585 rfl (lv_at hl 3 rfl) ?_
  refine lv_bipush (v := 71) hx hb dX9_names_586 (by decide) ?_
  refine lv_icmp_ne (tgt := 605) hx hb dX9_names_588 (by decide) (fun _ => ?_) (fun c_ => absurd c_ (by decide))
  refine lv_iload_n hx hb dX9_names_605 rfl (lv_at hl 4 rfl) ?_
  refine lv_if_ne (tgt := 613) hx hb dX9_names_606 (by decide) (fun c_19 => ?_) (fun c_19 => ?_)
  · refine lv_iload_n hx hb dX9_names_613 rfl (lv_at hl 4 rfl) ?_
    refine lv_iconst (v := 1) hx hb dX9_names_614 (by decide) ?_
    refine lv_icmp_ne (tgt := 622) hx hb dX9_names_615 (by decide) (fun c_20 => ?_) (fun c_20 => ?_)
    · refine lv_iload hx hb dX9_names_622 (lv_at hl 0 rfl) ?_
      exact r_iret hC hr hlk hw () rfl ((if_neg c_19).trans (if_neg c_20)).symm (Nat.le_of_ble_eq_true rfl) (Nat.le_of_ble_eq_true rfl) dX9_names_624
    · refine lv_iload_n hx hb dX9_names_618 rfl (lv_at hl 1 rfl) ?_
      refine lv_goto (tgt := 624) hx hb dX9_names_619 (by decide) ?_
      exact r_iret hC hr hlk hw () rfl ((if_neg c_19).trans (if_pos c_20)).symm (Nat.le_of_ble_eq_true rfl) (Nat.le_of_ble_eq_true rfl) dX9_names_624
  · refine lv_iload_n hx hb dX9_names_609 rfl (lv_at hl 2 rfl) ?_
    refine lv_goto (tgt := 624) hx hb dX9_names_610 (by decide) ?_
    exact r_iret hC hr hlk hw () rfl (if_pos c_19).symm (Nat.le_of_ble_eq_true rfl) (Nat.le_of_ble_eq_true rfl) dX9_names_624

set_option maxHeartbeats 4000000 in
set_option maxRecDepth 100000 in
theorem c_X9_names_1 (l : Launch) {D : va_G} {q : Nat → ClassId} (w : wT) (sz : Nat) (wh : Int32) : Met l yX9_names wsX9_names (rmz 1 22) (va_Pc [.int 1, .int wh] (rPre D q w sz)) (va_Qi (fun (r : Int32) (u : Unit) => r = if wh = 0 then 1 else if wh = 1 then 0 else 0) (fun (u : Unit) tt => rPo D (rA w sz) w tt) (rA w sz)) 0 0 (rA w sz) := by
  refine r_start (cc := cX9_names) (maxL := 6) (ret := (some .int)) (by decide) rfl (Nat.le_of_ble_eq_true rfl) ?_
  intro p e s m below meth c ls hC hr hlk hnm hsz hw hl
  have hx := hC.1
  have hb := hC.2.1
  have hl : lv_has ls 6 [(0, .int 1), (1, .int wh)] := hl
  refine lv_iconst (v := 0) hx hb dX9_names_0 (by decide) ?_
  refine lv_istore_n (lv' := [(2, .int 0), (0, .int 1), (1, .int wh)]) hx hb dX9_names_1 rfl hl (by decide) rfl (fun ls hl => ?_)
  refine lv_iconst (v := 0) hx hb dX9_names_2 (by decide) ?_
  refine lv_istore_n (lv' := [(3, .int 0), (2, .int 0), (0, .int 1), (1, .int wh)]) hx hb dX9_names_3 rfl hl (by decide) rfl (fun ls hl => ?_)
  refine lv_iconst (v := 0) hx hb dX9_names_4 (by decide) ?_
  refine lv_istore (lv' := [(4, .int 0), (3, .int 0), (2, .int 0), (0, .int 1), (1, .int wh)]) hx hb dX9_names_5 hl (by decide) rfl (fun ls hl => ?_)
  refine lv_iload_n hx hb dX9_names_7 rfl (lv_at hl 3 rfl) ?_
  refine lv_iconst (v := 1) hx hb dX9_names_8 (by decide) ?_
  refine lv_icmp_eq (tgt := 24) hx hb dX9_names_9 (by decide) (fun _ => ?_) (fun c_ => absurd (by decide) c_)
  refine lv_iconst (v := 1) hx hb dX9_names_24 (by decide) ?_
  refine lv_istore_n (lv' := [(2, .int 1), (4, .int 0), (3, .int 0), (0, .int 1), (1, .int wh)]) hx hb dX9_names_25 rfl hl (by decide) rfl (fun ls hl => ?_)
  refine lv_goto (tgt := 605) hx hb dX9_names_26 (by decide) ?_
  refine lv_iload_n hx hb dX9_names_605 rfl (lv_at hl 4 rfl) ?_
  refine lv_if_ne (tgt := 613) hx hb dX9_names_606 (by decide) (fun c_1 => ?_) (fun c_1 => ?_)
  · refine lv_iload_n hx hb dX9_names_613 rfl (lv_at hl 4 rfl) ?_
    refine lv_iconst (v := 1) hx hb dX9_names_614 (by decide) ?_
    refine lv_icmp_ne (tgt := 622) hx hb dX9_names_615 (by decide) (fun c_2 => ?_) (fun c_2 => ?_)
    · refine lv_iload hx hb dX9_names_622 (lv_at hl 1 rfl) ?_
      exact r_iret hC hr hlk hw () rfl ((if_neg c_1).trans (if_neg c_2)).symm (Nat.le_of_ble_eq_true rfl) (Nat.le_of_ble_eq_true rfl) dX9_names_624
    · refine lv_iload_n hx hb dX9_names_618 rfl (lv_at hl 2 rfl) ?_
      refine lv_goto (tgt := 624) hx hb dX9_names_619 (by decide) ?_
      exact r_iret hC hr hlk hw () rfl ((if_neg c_1).trans (if_pos c_2)).symm (Nat.le_of_ble_eq_true rfl) (Nat.le_of_ble_eq_true rfl) dX9_names_624
  · refine lv_iload_n hx hb dX9_names_609 rfl (lv_at hl 0 rfl) ?_
    refine lv_goto (tgt := 624) hx hb dX9_names_610 (by decide) ?_
    exact r_iret hC hr hlk hw () rfl (if_pos c_1).symm (Nat.le_of_ble_eq_true rfl) (Nat.le_of_ble_eq_true rfl) dX9_names_624

set_option maxHeartbeats 4000000 in
set_option maxRecDepth 100000 in
theorem c_X9_names_2 (l : Launch) {D : va_G} {q : Nat → ClassId} (w : wT) (sz : Nat) (wh : Int32) : Met l yX9_names wsX9_names (rmz 1 22) (va_Pc [.int 2, .int wh] (rPre D q w sz)) (va_Qi (fun (r : Int32) (u : Unit) => r = if wh = 0 then 2 else if wh = 1 then 0 else 0) (fun (u : Unit) tt => rPo D (rA w sz) w tt) (rA w sz)) 0 0 (rA w sz) := by
  refine r_start (cc := cX9_names) (maxL := 6) (ret := (some .int)) (by decide) rfl (Nat.le_of_ble_eq_true rfl) ?_
  intro p e s m below meth c ls hC hr hlk hnm hsz hw hl
  have hx := hC.1
  have hb := hC.2.1
  have hl : lv_has ls 6 [(0, .int 2), (1, .int wh)] := hl
  refine lv_iconst (v := 0) hx hb dX9_names_0 (by decide) ?_
  refine lv_istore_n (lv' := [(2, .int 0), (0, .int 2), (1, .int wh)]) hx hb dX9_names_1 rfl hl (by decide) rfl (fun ls hl => ?_)
  refine lv_iconst (v := 0) hx hb dX9_names_2 (by decide) ?_
  refine lv_istore_n (lv' := [(3, .int 0), (2, .int 0), (0, .int 2), (1, .int wh)]) hx hb dX9_names_3 rfl hl (by decide) rfl (fun ls hl => ?_)
  refine lv_iconst (v := 0) hx hb dX9_names_4 (by decide) ?_
  refine lv_istore (lv' := [(4, .int 0), (3, .int 0), (2, .int 0), (0, .int 2), (1, .int wh)]) hx hb dX9_names_5 hl (by decide) rfl (fun ls hl => ?_)
  refine lv_iload_n hx hb dX9_names_7 rfl (lv_at hl 3 rfl) ?_
  refine lv_iconst (v := 1) hx hb dX9_names_8 (by decide) ?_
  refine lv_icmp_eq (tgt := 24) hx hb dX9_names_9 (by decide) (fun c_ => absurd c_ (by decide)) (fun _ => ?_)
  refine lv_iload_n hx hb dX9_names_12 rfl (lv_at hl 3 rfl) ?_
  refine lv_bipush (v := 72) hx hb dX9_names_13 (by decide) ?_
  refine lv_icmp_eq (tgt := 24) hx hb dX9_names_15 (by decide) (fun c_ => absurd c_ (by decide)) (fun _ => ?_)
  refine lv_iload_n hx hb dX9_names_18 rfl (lv_at hl 3 rfl) ?_
  refine lv_bipush (v := 73) hx hb dX9_names_19 (by decide) ?_
  refine lv_icmp_ne (tgt := 29) hx hb dX9_names_21 (by decide) (fun _ => ?_) (fun c_ => absurd c_ (by decide))
  refine lv_iload_n hx hb dX9_names_29 rfl (lv_at hl 3 rfl) ?_
  refine lv_iconst (v := 2) hx hb dX9_names_30 (by decide) ?_
  refine lv_icmp_ne (tgt := 39) hx hb dX9_names_31 (by decide) (fun c_ => absurd (by decide) c_) (fun _ => ?_)
  refine lv_iconst (v := 2) hx hb dX9_names_34 (by decide) ?_
  refine lv_istore_n (lv' := [(2, .int 2), (4, .int 0), (3, .int 0), (0, .int 2), (1, .int wh)]) hx hb dX9_names_35 rfl hl (by decide) rfl (fun ls hl => ?_)
  refine lv_goto (tgt := 605) hx hb dX9_names_36 (by decide) ?_
  refine lv_iload_n hx hb dX9_names_605 rfl (lv_at hl 4 rfl) ?_
  refine lv_if_ne (tgt := 613) hx hb dX9_names_606 (by decide) (fun c_1 => ?_) (fun c_1 => ?_)
  · refine lv_iload_n hx hb dX9_names_613 rfl (lv_at hl 4 rfl) ?_
    refine lv_iconst (v := 1) hx hb dX9_names_614 (by decide) ?_
    refine lv_icmp_ne (tgt := 622) hx hb dX9_names_615 (by decide) (fun c_2 => ?_) (fun c_2 => ?_)
    · refine lv_iload hx hb dX9_names_622 (lv_at hl 1 rfl) ?_
      exact r_iret hC hr hlk hw () rfl ((if_neg c_1).trans (if_neg c_2)).symm (Nat.le_of_ble_eq_true rfl) (Nat.le_of_ble_eq_true rfl) dX9_names_624
    · refine lv_iload_n hx hb dX9_names_618 rfl (lv_at hl 2 rfl) ?_
      refine lv_goto (tgt := 624) hx hb dX9_names_619 (by decide) ?_
      exact r_iret hC hr hlk hw () rfl ((if_neg c_1).trans (if_pos c_2)).symm (Nat.le_of_ble_eq_true rfl) (Nat.le_of_ble_eq_true rfl) dX9_names_624
  · refine lv_iload_n hx hb dX9_names_609 rfl (lv_at hl 0 rfl) ?_
    refine lv_goto (tgt := 624) hx hb dX9_names_610 (by decide) ?_
    exact r_iret hC hr hlk hw () rfl (if_pos c_1).symm (Nat.le_of_ble_eq_true rfl) (Nat.le_of_ble_eq_true rfl) dX9_names_624

set_option maxHeartbeats 4000000 in
set_option maxRecDepth 100000 in
theorem c_X9_names_3 (l : Launch) {D : va_G} {q : Nat → ClassId} (w : wT) (sz : Nat) (wh : Int32) : Met l yX9_names wsX9_names (rmz 1 22) (va_Pc [.int 3, .int wh] (rPre D q w sz)) (va_Qi (fun (r : Int32) (u : Unit) => r = if wh = 0 then 1 else if wh = 1 then 1 else 0) (fun (u : Unit) tt => rPo D (rA w sz) w tt) (rA w sz)) 0 0 (rA w sz) := by
  refine r_start (cc := cX9_names) (maxL := 6) (ret := (some .int)) (by decide) rfl (Nat.le_of_ble_eq_true rfl) ?_
  intro p e s m below meth c ls hC hr hlk hnm hsz hw hl
  have hx := hC.1
  have hb := hC.2.1
  have hl : lv_has ls 6 [(0, .int 3), (1, .int wh)] := hl
  refine lv_iconst (v := 0) hx hb dX9_names_0 (by decide) ?_
  refine lv_istore_n (lv' := [(2, .int 0), (0, .int 3), (1, .int wh)]) hx hb dX9_names_1 rfl hl (by decide) rfl (fun ls hl => ?_)
  refine lv_iconst (v := 0) hx hb dX9_names_2 (by decide) ?_
  refine lv_istore_n (lv' := [(3, .int 0), (2, .int 0), (0, .int 3), (1, .int wh)]) hx hb dX9_names_3 rfl hl (by decide) rfl (fun ls hl => ?_)
  refine lv_iconst (v := 0) hx hb dX9_names_4 (by decide) ?_
  refine lv_istore (lv' := [(4, .int 0), (3, .int 0), (2, .int 0), (0, .int 3), (1, .int wh)]) hx hb dX9_names_5 hl (by decide) rfl (fun ls hl => ?_)
  refine lv_iload_n hx hb dX9_names_7 rfl (lv_at hl 3 rfl) ?_
  refine lv_iconst (v := 1) hx hb dX9_names_8 (by decide) ?_
  refine lv_icmp_eq (tgt := 24) hx hb dX9_names_9 (by decide) (fun c_ => absurd c_ (by decide)) (fun _ => ?_)
  refine lv_iload_n hx hb dX9_names_12 rfl (lv_at hl 3 rfl) ?_
  refine lv_bipush (v := 72) hx hb dX9_names_13 (by decide) ?_
  refine lv_icmp_eq (tgt := 24) hx hb dX9_names_15 (by decide) (fun c_ => absurd c_ (by decide)) (fun _ => ?_)
  refine lv_iload_n hx hb dX9_names_18 rfl (lv_at hl 3 rfl) ?_
  refine lv_bipush (v := 73) hx hb dX9_names_19 (by decide) ?_
  refine lv_icmp_ne (tgt := 29) hx hb dX9_names_21 (by decide) (fun _ => ?_) (fun c_ => absurd c_ (by decide))
  refine lv_iload_n hx hb dX9_names_29 rfl (lv_at hl 3 rfl) ?_
  refine lv_iconst (v := 2) hx hb dX9_names_30 (by decide) ?_
  refine lv_icmp_ne (tgt := 39) hx hb dX9_names_31 (by decide) (fun _ => ?_) (fun c_ => absurd c_ (by decide))
  refine lv_iload_n hx hb dX9_names_39 rfl (lv_at hl 3 rfl) ?_
  refine lv_iconst (v := 3) hx hb dX9_names_40 (by decide) ?_
  refine lv_icmp_ne (tgt := 51) hx hb dX9_names_41 (by decide) (fun c_ => absurd (by decide) c_) (fun _ => ?_)
  refine lv_iconst (v := 1) hx hb dX9_names_44 (by decide) ?_
  refine lv_istore_n (lv' := [(2, .int 1), (4, .int 0), (3, .int 0), (0, .int 3), (1, .int wh)]) hx hb dX9_names_45 rfl hl (by decide) rfl (fun ls hl => ?_)
  refine lv_iconst (v := 1) hx hb dX9_names_46 (by decide) ?_
  refine lv_istore_n (lv' := [(3, .int 1), (2, .int 1), (4, .int 0), (0, .int 3), (1, .int wh)]) hx hb dX9_names_47 rfl hl (by decide) rfl (fun ls hl => ?_)
  refine lv_goto (tgt := 605) hx hb dX9_names_48 (by decide) ?_
  refine lv_iload_n hx hb dX9_names_605 rfl (lv_at hl 4 rfl) ?_
  refine lv_if_ne (tgt := 613) hx hb dX9_names_606 (by decide) (fun c_1 => ?_) (fun c_1 => ?_)
  · refine lv_iload_n hx hb dX9_names_613 rfl (lv_at hl 4 rfl) ?_
    refine lv_iconst (v := 1) hx hb dX9_names_614 (by decide) ?_
    refine lv_icmp_ne (tgt := 622) hx hb dX9_names_615 (by decide) (fun c_2 => ?_) (fun c_2 => ?_)
    · refine lv_iload hx hb dX9_names_622 (lv_at hl 2 rfl) ?_
      exact r_iret hC hr hlk hw () rfl ((if_neg c_1).trans (if_neg c_2)).symm (Nat.le_of_ble_eq_true rfl) (Nat.le_of_ble_eq_true rfl) dX9_names_624
    · refine lv_iload_n hx hb dX9_names_618 rfl (lv_at hl 0 rfl) ?_
      refine lv_goto (tgt := 624) hx hb dX9_names_619 (by decide) ?_
      exact r_iret hC hr hlk hw () rfl ((if_neg c_1).trans (if_pos c_2)).symm (Nat.le_of_ble_eq_true rfl) (Nat.le_of_ble_eq_true rfl) dX9_names_624
  · refine lv_iload_n hx hb dX9_names_609 rfl (lv_at hl 1 rfl) ?_
    refine lv_goto (tgt := 624) hx hb dX9_names_610 (by decide) ?_
    exact r_iret hC hr hlk hw () rfl (if_pos c_1).symm (Nat.le_of_ble_eq_true rfl) (Nat.le_of_ble_eq_true rfl) dX9_names_624

set_option maxHeartbeats 4000000 in
set_option maxRecDepth 100000 in
theorem c_X9_names_4 (l : Launch) {D : va_G} {q : Nat → ClassId} (w : wT) (sz : Nat) (wh : Int32) : Met l yX9_names wsX9_names (rmz 1 22) (va_Pc [.int 4, .int wh] (rPre D q w sz)) (va_Qi (fun (r : Int32) (u : Unit) => r = if wh = 0 then 1 else if wh = 1 then 1 else 1) (fun (u : Unit) tt => rPo D (rA w sz) w tt) (rA w sz)) 0 0 (rA w sz) := by
  refine r_start (cc := cX9_names) (maxL := 6) (ret := (some .int)) (by decide) rfl (Nat.le_of_ble_eq_true rfl) ?_
  intro p e s m below meth c ls hC hr hlk hnm hsz hw hl
  have hx := hC.1
  have hb := hC.2.1
  have hl : lv_has ls 6 [(0, .int 4), (1, .int wh)] := hl
  refine lv_iconst (v := 0) hx hb dX9_names_0 (by decide) ?_
  refine lv_istore_n (lv' := [(2, .int 0), (0, .int 4), (1, .int wh)]) hx hb dX9_names_1 rfl hl (by decide) rfl (fun ls hl => ?_)
  refine lv_iconst (v := 0) hx hb dX9_names_2 (by decide) ?_
  refine lv_istore_n (lv' := [(3, .int 0), (2, .int 0), (0, .int 4), (1, .int wh)]) hx hb dX9_names_3 rfl hl (by decide) rfl (fun ls hl => ?_)
  refine lv_iconst (v := 0) hx hb dX9_names_4 (by decide) ?_
  refine lv_istore (lv' := [(4, .int 0), (3, .int 0), (2, .int 0), (0, .int 4), (1, .int wh)]) hx hb dX9_names_5 hl (by decide) rfl (fun ls hl => ?_)
  refine lv_iload_n hx hb dX9_names_7 rfl (lv_at hl 3 rfl) ?_
  refine lv_iconst (v := 1) hx hb dX9_names_8 (by decide) ?_
  refine lv_icmp_eq (tgt := 24) hx hb dX9_names_9 (by decide) (fun c_ => absurd c_ (by decide)) (fun _ => ?_)
  refine lv_iload_n hx hb dX9_names_12 rfl (lv_at hl 3 rfl) ?_
  refine lv_bipush (v := 72) hx hb dX9_names_13 (by decide) ?_
  refine lv_icmp_eq (tgt := 24) hx hb dX9_names_15 (by decide) (fun c_ => absurd c_ (by decide)) (fun _ => ?_)
  refine lv_iload_n hx hb dX9_names_18 rfl (lv_at hl 3 rfl) ?_
  refine lv_bipush (v := 73) hx hb dX9_names_19 (by decide) ?_
  refine lv_icmp_ne (tgt := 29) hx hb dX9_names_21 (by decide) (fun _ => ?_) (fun c_ => absurd c_ (by decide))
  refine lv_iload_n hx hb dX9_names_29 rfl (lv_at hl 3 rfl) ?_
  refine lv_iconst (v := 2) hx hb dX9_names_30 (by decide) ?_
  refine lv_icmp_ne (tgt := 39) hx hb dX9_names_31 (by decide) (fun _ => ?_) (fun c_ => absurd c_ (by decide))
  refine lv_iload_n hx hb dX9_names_39 rfl (lv_at hl 3 rfl) ?_
  refine lv_iconst (v := 3) hx hb dX9_names_40 (by decide) ?_
  refine lv_icmp_ne (tgt := 51) hx hb dX9_names_41 (by decide) (fun _ => ?_) (fun c_ => absurd c_ (by decide))
  refine lv_iload_n hx hb dX9_names_51 rfl (lv_at hl 3 rfl) ?_
  refine lv_iconst (v := 4) hx hb dX9_names_52 (by decide) ?_
  refine lv_bipush (v := 8) hx hb dX9_names_53 (by decide) ?_
  refine r_ki hw (r_runS (rest := []) hC hw (c_X9_isIn l _ _ 4 4 8) 3 gX9_names_X9_isIn rfl rfl rfl (by decide +kernel) ⟨Nat.le_of_ble_eq_true rfl, Nat.le_of_ble_eq_true rfl⟩ rfl hl.1 rfl (Nat.le_of_ble_eq_true rfl) dX9_names_55 ⟨Nat.le_of_ble_eq_true rfl, Nat.le_of_ble_eq_true rfl⟩) (fun r_2 u_3 H locs h_1 hw => ?_)
  rw [if_pos (by decide)] at h_1
  subst h_1
  refine lv_if_ne (tgt := 67) hx hb dX9_names_58 (by decide) (fun _ => ?_) (fun c_ => absurd c_ (by decide))
  refine lv_iconst (v := 1) hx hb dX9_names_67 (by decide) ?_
  refine lv_istore_n (lv' := [(2, .int 1), (4, .int 0), (3, .int 0), (0, .int 4), (1, .int wh)]) hx hb dX9_names_68 rfl hl (by decide) rfl (fun ls hl => ?_)
  refine lv_iconst (v := 1) hx hb dX9_names_69 (by decide) ?_
  refine lv_istore_n (lv' := [(3, .int 1), (2, .int 1), (4, .int 0), (0, .int 4), (1, .int wh)]) hx hb dX9_names_70 rfl hl (by decide) rfl (fun ls hl => ?_)
  refine lv_iconst (v := 1) hx hb dX9_names_71 (by decide) ?_
  refine lv_istore (lv' := [(4, .int 1), (3, .int 1), (2, .int 1), (0, .int 4), (1, .int wh)]) hx hb dX9_names_72 hl (by decide) rfl (fun ls hl => ?_)
  refine lv_goto (tgt := 605) hx hb dX9_names_74 (by decide) ?_
  refine lv_iload_n hx hb dX9_names_605 rfl (lv_at hl 4 rfl) ?_
  refine lv_if_ne (tgt := 613) hx hb dX9_names_606 (by decide) (fun c_4 => ?_) (fun c_4 => ?_)
  · refine lv_iload_n hx hb dX9_names_613 rfl (lv_at hl 4 rfl) ?_
    refine lv_iconst (v := 1) hx hb dX9_names_614 (by decide) ?_
    refine lv_icmp_ne (tgt := 622) hx hb dX9_names_615 (by decide) (fun c_5 => ?_) (fun c_5 => ?_)
    · refine lv_iload hx hb dX9_names_622 (lv_at hl 0 rfl) ?_
      exact r_iret hC hr hlk hw () rfl ((if_neg c_4).trans (if_neg c_5)).symm (Nat.le_of_ble_eq_true rfl) (Nat.le_of_ble_eq_true rfl) dX9_names_624
    · refine lv_iload_n hx hb dX9_names_618 rfl (lv_at hl 1 rfl) ?_
      refine lv_goto (tgt := 624) hx hb dX9_names_619 (by decide) ?_
      exact r_iret hC hr hlk hw () rfl ((if_neg c_4).trans (if_pos c_5)).symm (Nat.le_of_ble_eq_true rfl) (Nat.le_of_ble_eq_true rfl) dX9_names_624
  · refine lv_iload_n hx hb dX9_names_609 rfl (lv_at hl 2 rfl) ?_
    refine lv_goto (tgt := 624) hx hb dX9_names_610 (by decide) ?_
    exact r_iret hC hr hlk hw () rfl (if_pos c_4).symm (Nat.le_of_ble_eq_true rfl) (Nat.le_of_ble_eq_true rfl) dX9_names_624

set_option maxHeartbeats 4000000 in
set_option maxRecDepth 100000 in
theorem c_X9_names_5 (l : Launch) {D : va_G} {q : Nat → ClassId} (w : wT) (sz : Nat) (wh : Int32) : Met l yX9_names wsX9_names (rmz 1 22) (va_Pc [.int 5, .int wh] (rPre D q w sz)) (va_Qi (fun (r : Int32) (u : Unit) => r = if wh = 0 then 1 else if wh = 1 then 1 else 1) (fun (u : Unit) tt => rPo D (rA w sz) w tt) (rA w sz)) 0 0 (rA w sz) := by
  refine r_start (cc := cX9_names) (maxL := 6) (ret := (some .int)) (by decide) rfl (Nat.le_of_ble_eq_true rfl) ?_
  intro p e s m below meth c ls hC hr hlk hnm hsz hw hl
  have hx := hC.1
  have hb := hC.2.1
  have hl : lv_has ls 6 [(0, .int 5), (1, .int wh)] := hl
  refine lv_iconst (v := 0) hx hb dX9_names_0 (by decide) ?_
  refine lv_istore_n (lv' := [(2, .int 0), (0, .int 5), (1, .int wh)]) hx hb dX9_names_1 rfl hl (by decide) rfl (fun ls hl => ?_)
  refine lv_iconst (v := 0) hx hb dX9_names_2 (by decide) ?_
  refine lv_istore_n (lv' := [(3, .int 0), (2, .int 0), (0, .int 5), (1, .int wh)]) hx hb dX9_names_3 rfl hl (by decide) rfl (fun ls hl => ?_)
  refine lv_iconst (v := 0) hx hb dX9_names_4 (by decide) ?_
  refine lv_istore (lv' := [(4, .int 0), (3, .int 0), (2, .int 0), (0, .int 5), (1, .int wh)]) hx hb dX9_names_5 hl (by decide) rfl (fun ls hl => ?_)
  refine lv_iload_n hx hb dX9_names_7 rfl (lv_at hl 3 rfl) ?_
  refine lv_iconst (v := 1) hx hb dX9_names_8 (by decide) ?_
  refine lv_icmp_eq (tgt := 24) hx hb dX9_names_9 (by decide) (fun c_ => absurd c_ (by decide)) (fun _ => ?_)
  refine lv_iload_n hx hb dX9_names_12 rfl (lv_at hl 3 rfl) ?_
  refine lv_bipush (v := 72) hx hb dX9_names_13 (by decide) ?_
  refine lv_icmp_eq (tgt := 24) hx hb dX9_names_15 (by decide) (fun c_ => absurd c_ (by decide)) (fun _ => ?_)
  refine lv_iload_n hx hb dX9_names_18 rfl (lv_at hl 3 rfl) ?_
  refine lv_bipush (v := 73) hx hb dX9_names_19 (by decide) ?_
  refine lv_icmp_ne (tgt := 29) hx hb dX9_names_21 (by decide) (fun _ => ?_) (fun c_ => absurd c_ (by decide))
  refine lv_iload_n hx hb dX9_names_29 rfl (lv_at hl 3 rfl) ?_
  refine lv_iconst (v := 2) hx hb dX9_names_30 (by decide) ?_
  refine lv_icmp_ne (tgt := 39) hx hb dX9_names_31 (by decide) (fun _ => ?_) (fun c_ => absurd c_ (by decide))
  refine lv_iload_n hx hb dX9_names_39 rfl (lv_at hl 3 rfl) ?_
  refine lv_iconst (v := 3) hx hb dX9_names_40 (by decide) ?_
  refine lv_icmp_ne (tgt := 51) hx hb dX9_names_41 (by decide) (fun _ => ?_) (fun c_ => absurd c_ (by decide))
  refine lv_iload_n hx hb dX9_names_51 rfl (lv_at hl 3 rfl) ?_
  refine lv_iconst (v := 4) hx hb dX9_names_52 (by decide) ?_
  refine lv_bipush (v := 8) hx hb dX9_names_53 (by decide) ?_
  refine r_ki hw (r_runS (rest := []) hC hw (c_X9_isIn l _ _ 5 4 8) 3 gX9_names_X9_isIn rfl rfl rfl (by decide +kernel) ⟨Nat.le_of_ble_eq_true rfl, Nat.le_of_ble_eq_true rfl⟩ rfl hl.1 rfl (Nat.le_of_ble_eq_true rfl) dX9_names_55 ⟨Nat.le_of_ble_eq_true rfl, Nat.le_of_ble_eq_true rfl⟩) (fun r_2 u_3 H locs h_1 hw => ?_)
  rw [if_pos (by decide)] at h_1
  subst h_1
  refine lv_if_ne (tgt := 67) hx hb dX9_names_58 (by decide) (fun _ => ?_) (fun c_ => absurd c_ (by decide))
  refine lv_iconst (v := 1) hx hb dX9_names_67 (by decide) ?_
  refine lv_istore_n (lv' := [(2, .int 1), (4, .int 0), (3, .int 0), (0, .int 5), (1, .int wh)]) hx hb dX9_names_68 rfl hl (by decide) rfl (fun ls hl => ?_)
  refine lv_iconst (v := 1) hx hb dX9_names_69 (by decide) ?_
  refine lv_istore_n (lv' := [(3, .int 1), (2, .int 1), (4, .int 0), (0, .int 5), (1, .int wh)]) hx hb dX9_names_70 rfl hl (by decide) rfl (fun ls hl => ?_)
  refine lv_iconst (v := 1) hx hb dX9_names_71 (by decide) ?_
  refine lv_istore (lv' := [(4, .int 1), (3, .int 1), (2, .int 1), (0, .int 5), (1, .int wh)]) hx hb dX9_names_72 hl (by decide) rfl (fun ls hl => ?_)
  refine lv_goto (tgt := 605) hx hb dX9_names_74 (by decide) ?_
  refine lv_iload_n hx hb dX9_names_605 rfl (lv_at hl 4 rfl) ?_
  refine lv_if_ne (tgt := 613) hx hb dX9_names_606 (by decide) (fun c_4 => ?_) (fun c_4 => ?_)
  · refine lv_iload_n hx hb dX9_names_613 rfl (lv_at hl 4 rfl) ?_
    refine lv_iconst (v := 1) hx hb dX9_names_614 (by decide) ?_
    refine lv_icmp_ne (tgt := 622) hx hb dX9_names_615 (by decide) (fun c_5 => ?_) (fun c_5 => ?_)
    · refine lv_iload hx hb dX9_names_622 (lv_at hl 0 rfl) ?_
      exact r_iret hC hr hlk hw () rfl ((if_neg c_4).trans (if_neg c_5)).symm (Nat.le_of_ble_eq_true rfl) (Nat.le_of_ble_eq_true rfl) dX9_names_624
    · refine lv_iload_n hx hb dX9_names_618 rfl (lv_at hl 1 rfl) ?_
      refine lv_goto (tgt := 624) hx hb dX9_names_619 (by decide) ?_
      exact r_iret hC hr hlk hw () rfl ((if_neg c_4).trans (if_pos c_5)).symm (Nat.le_of_ble_eq_true rfl) (Nat.le_of_ble_eq_true rfl) dX9_names_624
  · refine lv_iload_n hx hb dX9_names_609 rfl (lv_at hl 2 rfl) ?_
    refine lv_goto (tgt := 624) hx hb dX9_names_610 (by decide) ?_
    exact r_iret hC hr hlk hw () rfl (if_pos c_4).symm (Nat.le_of_ble_eq_true rfl) (Nat.le_of_ble_eq_true rfl) dX9_names_624

set_option maxHeartbeats 4000000 in
set_option maxRecDepth 100000 in
theorem c_X9_names_6 (l : Launch) {D : va_G} {q : Nat → ClassId} (w : wT) (sz : Nat) (wh : Int32) : Met l yX9_names wsX9_names (rmz 1 22) (va_Pc [.int 6, .int wh] (rPre D q w sz)) (va_Qi (fun (r : Int32) (u : Unit) => r = if wh = 0 then 1 else if wh = 1 then 1 else 1) (fun (u : Unit) tt => rPo D (rA w sz) w tt) (rA w sz)) 0 0 (rA w sz) := by
  refine r_start (cc := cX9_names) (maxL := 6) (ret := (some .int)) (by decide) rfl (Nat.le_of_ble_eq_true rfl) ?_
  intro p e s m below meth c ls hC hr hlk hnm hsz hw hl
  have hx := hC.1
  have hb := hC.2.1
  have hl : lv_has ls 6 [(0, .int 6), (1, .int wh)] := hl
  refine lv_iconst (v := 0) hx hb dX9_names_0 (by decide) ?_
  refine lv_istore_n (lv' := [(2, .int 0), (0, .int 6), (1, .int wh)]) hx hb dX9_names_1 rfl hl (by decide) rfl (fun ls hl => ?_)
  refine lv_iconst (v := 0) hx hb dX9_names_2 (by decide) ?_
  refine lv_istore_n (lv' := [(3, .int 0), (2, .int 0), (0, .int 6), (1, .int wh)]) hx hb dX9_names_3 rfl hl (by decide) rfl (fun ls hl => ?_)
  refine lv_iconst (v := 0) hx hb dX9_names_4 (by decide) ?_
  refine lv_istore (lv' := [(4, .int 0), (3, .int 0), (2, .int 0), (0, .int 6), (1, .int wh)]) hx hb dX9_names_5 hl (by decide) rfl (fun ls hl => ?_)
  refine lv_iload_n hx hb dX9_names_7 rfl (lv_at hl 3 rfl) ?_
  refine lv_iconst (v := 1) hx hb dX9_names_8 (by decide) ?_
  refine lv_icmp_eq (tgt := 24) hx hb dX9_names_9 (by decide) (fun c_ => absurd c_ (by decide)) (fun _ => ?_)
  refine lv_iload_n hx hb dX9_names_12 rfl (lv_at hl 3 rfl) ?_
  refine lv_bipush (v := 72) hx hb dX9_names_13 (by decide) ?_
  refine lv_icmp_eq (tgt := 24) hx hb dX9_names_15 (by decide) (fun c_ => absurd c_ (by decide)) (fun _ => ?_)
  refine lv_iload_n hx hb dX9_names_18 rfl (lv_at hl 3 rfl) ?_
  refine lv_bipush (v := 73) hx hb dX9_names_19 (by decide) ?_
  refine lv_icmp_ne (tgt := 29) hx hb dX9_names_21 (by decide) (fun _ => ?_) (fun c_ => absurd c_ (by decide))
  refine lv_iload_n hx hb dX9_names_29 rfl (lv_at hl 3 rfl) ?_
  refine lv_iconst (v := 2) hx hb dX9_names_30 (by decide) ?_
  refine lv_icmp_ne (tgt := 39) hx hb dX9_names_31 (by decide) (fun _ => ?_) (fun c_ => absurd c_ (by decide))
  refine lv_iload_n hx hb dX9_names_39 rfl (lv_at hl 3 rfl) ?_
  refine lv_iconst (v := 3) hx hb dX9_names_40 (by decide) ?_
  refine lv_icmp_ne (tgt := 51) hx hb dX9_names_41 (by decide) (fun _ => ?_) (fun c_ => absurd c_ (by decide))
  refine lv_iload_n hx hb dX9_names_51 rfl (lv_at hl 3 rfl) ?_
  refine lv_iconst (v := 4) hx hb dX9_names_52 (by decide) ?_
  refine lv_bipush (v := 8) hx hb dX9_names_53 (by decide) ?_
  refine r_ki hw (r_runS (rest := []) hC hw (c_X9_isIn l _ _ 6 4 8) 3 gX9_names_X9_isIn rfl rfl rfl (by decide +kernel) ⟨Nat.le_of_ble_eq_true rfl, Nat.le_of_ble_eq_true rfl⟩ rfl hl.1 rfl (Nat.le_of_ble_eq_true rfl) dX9_names_55 ⟨Nat.le_of_ble_eq_true rfl, Nat.le_of_ble_eq_true rfl⟩) (fun r_2 u_3 H locs h_1 hw => ?_)
  rw [if_pos (by decide)] at h_1
  subst h_1
  refine lv_if_ne (tgt := 67) hx hb dX9_names_58 (by decide) (fun _ => ?_) (fun c_ => absurd c_ (by decide))
  refine lv_iconst (v := 1) hx hb dX9_names_67 (by decide) ?_
  refine lv_istore_n (lv' := [(2, .int 1), (4, .int 0), (3, .int 0), (0, .int 6), (1, .int wh)]) hx hb dX9_names_68 rfl hl (by decide) rfl (fun ls hl => ?_)
  refine lv_iconst (v := 1) hx hb dX9_names_69 (by decide) ?_
  refine lv_istore_n (lv' := [(3, .int 1), (2, .int 1), (4, .int 0), (0, .int 6), (1, .int wh)]) hx hb dX9_names_70 rfl hl (by decide) rfl (fun ls hl => ?_)
  refine lv_iconst (v := 1) hx hb dX9_names_71 (by decide) ?_
  refine lv_istore (lv' := [(4, .int 1), (3, .int 1), (2, .int 1), (0, .int 6), (1, .int wh)]) hx hb dX9_names_72 hl (by decide) rfl (fun ls hl => ?_)
  refine lv_goto (tgt := 605) hx hb dX9_names_74 (by decide) ?_
  refine lv_iload_n hx hb dX9_names_605 rfl (lv_at hl 4 rfl) ?_
  refine lv_if_ne (tgt := 613) hx hb dX9_names_606 (by decide) (fun c_4 => ?_) (fun c_4 => ?_)
  · refine lv_iload_n hx hb dX9_names_613 rfl (lv_at hl 4 rfl) ?_
    refine lv_iconst (v := 1) hx hb dX9_names_614 (by decide) ?_
    refine lv_icmp_ne (tgt := 622) hx hb dX9_names_615 (by decide) (fun c_5 => ?_) (fun c_5 => ?_)
    · refine lv_iload hx hb dX9_names_622 (lv_at hl 0 rfl) ?_
      exact r_iret hC hr hlk hw () rfl ((if_neg c_4).trans (if_neg c_5)).symm (Nat.le_of_ble_eq_true rfl) (Nat.le_of_ble_eq_true rfl) dX9_names_624
    · refine lv_iload_n hx hb dX9_names_618 rfl (lv_at hl 1 rfl) ?_
      refine lv_goto (tgt := 624) hx hb dX9_names_619 (by decide) ?_
      exact r_iret hC hr hlk hw () rfl ((if_neg c_4).trans (if_pos c_5)).symm (Nat.le_of_ble_eq_true rfl) (Nat.le_of_ble_eq_true rfl) dX9_names_624
  · refine lv_iload_n hx hb dX9_names_609 rfl (lv_at hl 2 rfl) ?_
    refine lv_goto (tgt := 624) hx hb dX9_names_610 (by decide) ?_
    exact r_iret hC hr hlk hw () rfl (if_pos c_4).symm (Nat.le_of_ble_eq_true rfl) (Nat.le_of_ble_eq_true rfl) dX9_names_624

set_option maxHeartbeats 4000000 in
set_option maxRecDepth 100000 in
theorem c_X9_names_7 (l : Launch) {D : va_G} {q : Nat → ClassId} (w : wT) (sz : Nat) (wh : Int32) : Met l yX9_names wsX9_names (rmz 1 22) (va_Pc [.int 7, .int wh] (rPre D q w sz)) (va_Qi (fun (r : Int32) (u : Unit) => r = if wh = 0 then 1 else if wh = 1 then 1 else 1) (fun (u : Unit) tt => rPo D (rA w sz) w tt) (rA w sz)) 0 0 (rA w sz) := by
  refine r_start (cc := cX9_names) (maxL := 6) (ret := (some .int)) (by decide) rfl (Nat.le_of_ble_eq_true rfl) ?_
  intro p e s m below meth c ls hC hr hlk hnm hsz hw hl
  have hx := hC.1
  have hb := hC.2.1
  have hl : lv_has ls 6 [(0, .int 7), (1, .int wh)] := hl
  refine lv_iconst (v := 0) hx hb dX9_names_0 (by decide) ?_
  refine lv_istore_n (lv' := [(2, .int 0), (0, .int 7), (1, .int wh)]) hx hb dX9_names_1 rfl hl (by decide) rfl (fun ls hl => ?_)
  refine lv_iconst (v := 0) hx hb dX9_names_2 (by decide) ?_
  refine lv_istore_n (lv' := [(3, .int 0), (2, .int 0), (0, .int 7), (1, .int wh)]) hx hb dX9_names_3 rfl hl (by decide) rfl (fun ls hl => ?_)
  refine lv_iconst (v := 0) hx hb dX9_names_4 (by decide) ?_
  refine lv_istore (lv' := [(4, .int 0), (3, .int 0), (2, .int 0), (0, .int 7), (1, .int wh)]) hx hb dX9_names_5 hl (by decide) rfl (fun ls hl => ?_)
  refine lv_iload_n hx hb dX9_names_7 rfl (lv_at hl 3 rfl) ?_
  refine lv_iconst (v := 1) hx hb dX9_names_8 (by decide) ?_
  refine lv_icmp_eq (tgt := 24) hx hb dX9_names_9 (by decide) (fun c_ => absurd c_ (by decide)) (fun _ => ?_)
  refine lv_iload_n hx hb dX9_names_12 rfl (lv_at hl 3 rfl) ?_
  refine lv_bipush (v := 72) hx hb dX9_names_13 (by decide) ?_
  refine lv_icmp_eq (tgt := 24) hx hb dX9_names_15 (by decide) (fun c_ => absurd c_ (by decide)) (fun _ => ?_)
  refine lv_iload_n hx hb dX9_names_18 rfl (lv_at hl 3 rfl) ?_
  refine lv_bipush (v := 73) hx hb dX9_names_19 (by decide) ?_
  refine lv_icmp_ne (tgt := 29) hx hb dX9_names_21 (by decide) (fun _ => ?_) (fun c_ => absurd c_ (by decide))
  refine lv_iload_n hx hb dX9_names_29 rfl (lv_at hl 3 rfl) ?_
  refine lv_iconst (v := 2) hx hb dX9_names_30 (by decide) ?_
  refine lv_icmp_ne (tgt := 39) hx hb dX9_names_31 (by decide) (fun _ => ?_) (fun c_ => absurd c_ (by decide))
  refine lv_iload_n hx hb dX9_names_39 rfl (lv_at hl 3 rfl) ?_
  refine lv_iconst (v := 3) hx hb dX9_names_40 (by decide) ?_
  refine lv_icmp_ne (tgt := 51) hx hb dX9_names_41 (by decide) (fun _ => ?_) (fun c_ => absurd c_ (by decide))
  refine lv_iload_n hx hb dX9_names_51 rfl (lv_at hl 3 rfl) ?_
  refine lv_iconst (v := 4) hx hb dX9_names_52 (by decide) ?_
  refine lv_bipush (v := 8) hx hb dX9_names_53 (by decide) ?_
  refine r_ki hw (r_runS (rest := []) hC hw (c_X9_isIn l _ _ 7 4 8) 3 gX9_names_X9_isIn rfl rfl rfl (by decide +kernel) ⟨Nat.le_of_ble_eq_true rfl, Nat.le_of_ble_eq_true rfl⟩ rfl hl.1 rfl (Nat.le_of_ble_eq_true rfl) dX9_names_55 ⟨Nat.le_of_ble_eq_true rfl, Nat.le_of_ble_eq_true rfl⟩) (fun r_2 u_3 H locs h_1 hw => ?_)
  rw [if_pos (by decide)] at h_1
  subst h_1
  refine lv_if_ne (tgt := 67) hx hb dX9_names_58 (by decide) (fun _ => ?_) (fun c_ => absurd c_ (by decide))
  refine lv_iconst (v := 1) hx hb dX9_names_67 (by decide) ?_
  refine lv_istore_n (lv' := [(2, .int 1), (4, .int 0), (3, .int 0), (0, .int 7), (1, .int wh)]) hx hb dX9_names_68 rfl hl (by decide) rfl (fun ls hl => ?_)
  refine lv_iconst (v := 1) hx hb dX9_names_69 (by decide) ?_
  refine lv_istore_n (lv' := [(3, .int 1), (2, .int 1), (4, .int 0), (0, .int 7), (1, .int wh)]) hx hb dX9_names_70 rfl hl (by decide) rfl (fun ls hl => ?_)
  refine lv_iconst (v := 1) hx hb dX9_names_71 (by decide) ?_
  refine lv_istore (lv' := [(4, .int 1), (3, .int 1), (2, .int 1), (0, .int 7), (1, .int wh)]) hx hb dX9_names_72 hl (by decide) rfl (fun ls hl => ?_)
  refine lv_goto (tgt := 605) hx hb dX9_names_74 (by decide) ?_
  refine lv_iload_n hx hb dX9_names_605 rfl (lv_at hl 4 rfl) ?_
  refine lv_if_ne (tgt := 613) hx hb dX9_names_606 (by decide) (fun c_4 => ?_) (fun c_4 => ?_)
  · refine lv_iload_n hx hb dX9_names_613 rfl (lv_at hl 4 rfl) ?_
    refine lv_iconst (v := 1) hx hb dX9_names_614 (by decide) ?_
    refine lv_icmp_ne (tgt := 622) hx hb dX9_names_615 (by decide) (fun c_5 => ?_) (fun c_5 => ?_)
    · refine lv_iload hx hb dX9_names_622 (lv_at hl 0 rfl) ?_
      exact r_iret hC hr hlk hw () rfl ((if_neg c_4).trans (if_neg c_5)).symm (Nat.le_of_ble_eq_true rfl) (Nat.le_of_ble_eq_true rfl) dX9_names_624
    · refine lv_iload_n hx hb dX9_names_618 rfl (lv_at hl 1 rfl) ?_
      refine lv_goto (tgt := 624) hx hb dX9_names_619 (by decide) ?_
      exact r_iret hC hr hlk hw () rfl ((if_neg c_4).trans (if_pos c_5)).symm (Nat.le_of_ble_eq_true rfl) (Nat.le_of_ble_eq_true rfl) dX9_names_624
  · refine lv_iload_n hx hb dX9_names_609 rfl (lv_at hl 2 rfl) ?_
    refine lv_goto (tgt := 624) hx hb dX9_names_610 (by decide) ?_
    exact r_iret hC hr hlk hw () rfl (if_pos c_4).symm (Nat.le_of_ble_eq_true rfl) (Nat.le_of_ble_eq_true rfl) dX9_names_624

set_option maxHeartbeats 4000000 in
set_option maxRecDepth 100000 in
theorem c_X9_names_8 (l : Launch) {D : va_G} {q : Nat → ClassId} (w : wT) (sz : Nat) (wh : Int32) : Met l yX9_names wsX9_names (rmz 1 22) (va_Pc [.int 8, .int wh] (rPre D q w sz)) (va_Qi (fun (r : Int32) (u : Unit) => r = if wh = 0 then 1 else if wh = 1 then 1 else 1) (fun (u : Unit) tt => rPo D (rA w sz) w tt) (rA w sz)) 0 0 (rA w sz) := by
  refine r_start (cc := cX9_names) (maxL := 6) (ret := (some .int)) (by decide) rfl (Nat.le_of_ble_eq_true rfl) ?_
  intro p e s m below meth c ls hC hr hlk hnm hsz hw hl
  have hx := hC.1
  have hb := hC.2.1
  have hl : lv_has ls 6 [(0, .int 8), (1, .int wh)] := hl
  refine lv_iconst (v := 0) hx hb dX9_names_0 (by decide) ?_
  refine lv_istore_n (lv' := [(2, .int 0), (0, .int 8), (1, .int wh)]) hx hb dX9_names_1 rfl hl (by decide) rfl (fun ls hl => ?_)
  refine lv_iconst (v := 0) hx hb dX9_names_2 (by decide) ?_
  refine lv_istore_n (lv' := [(3, .int 0), (2, .int 0), (0, .int 8), (1, .int wh)]) hx hb dX9_names_3 rfl hl (by decide) rfl (fun ls hl => ?_)
  refine lv_iconst (v := 0) hx hb dX9_names_4 (by decide) ?_
  refine lv_istore (lv' := [(4, .int 0), (3, .int 0), (2, .int 0), (0, .int 8), (1, .int wh)]) hx hb dX9_names_5 hl (by decide) rfl (fun ls hl => ?_)
  refine lv_iload_n hx hb dX9_names_7 rfl (lv_at hl 3 rfl) ?_
  refine lv_iconst (v := 1) hx hb dX9_names_8 (by decide) ?_
  refine lv_icmp_eq (tgt := 24) hx hb dX9_names_9 (by decide) (fun c_ => absurd c_ (by decide)) (fun _ => ?_)
  refine lv_iload_n hx hb dX9_names_12 rfl (lv_at hl 3 rfl) ?_
  refine lv_bipush (v := 72) hx hb dX9_names_13 (by decide) ?_
  refine lv_icmp_eq (tgt := 24) hx hb dX9_names_15 (by decide) (fun c_ => absurd c_ (by decide)) (fun _ => ?_)
  refine lv_iload_n hx hb dX9_names_18 rfl (lv_at hl 3 rfl) ?_
  refine lv_bipush (v := 73) hx hb dX9_names_19 (by decide) ?_
  refine lv_icmp_ne (tgt := 29) hx hb dX9_names_21 (by decide) (fun _ => ?_) (fun c_ => absurd c_ (by decide))
  refine lv_iload_n hx hb dX9_names_29 rfl (lv_at hl 3 rfl) ?_
  refine lv_iconst (v := 2) hx hb dX9_names_30 (by decide) ?_
  refine lv_icmp_ne (tgt := 39) hx hb dX9_names_31 (by decide) (fun _ => ?_) (fun c_ => absurd c_ (by decide))
  refine lv_iload_n hx hb dX9_names_39 rfl (lv_at hl 3 rfl) ?_
  refine lv_iconst (v := 3) hx hb dX9_names_40 (by decide) ?_
  refine lv_icmp_ne (tgt := 51) hx hb dX9_names_41 (by decide) (fun _ => ?_) (fun c_ => absurd c_ (by decide))
  refine lv_iload_n hx hb dX9_names_51 rfl (lv_at hl 3 rfl) ?_
  refine lv_iconst (v := 4) hx hb dX9_names_52 (by decide) ?_
  refine lv_bipush (v := 8) hx hb dX9_names_53 (by decide) ?_
  refine r_ki hw (r_runS (rest := []) hC hw (c_X9_isIn l _ _ 8 4 8) 3 gX9_names_X9_isIn rfl rfl rfl (by decide +kernel) ⟨Nat.le_of_ble_eq_true rfl, Nat.le_of_ble_eq_true rfl⟩ rfl hl.1 rfl (Nat.le_of_ble_eq_true rfl) dX9_names_55 ⟨Nat.le_of_ble_eq_true rfl, Nat.le_of_ble_eq_true rfl⟩) (fun r_2 u_3 H locs h_1 hw => ?_)
  rw [if_pos (by decide)] at h_1
  subst h_1
  refine lv_if_ne (tgt := 67) hx hb dX9_names_58 (by decide) (fun _ => ?_) (fun c_ => absurd c_ (by decide))
  refine lv_iconst (v := 1) hx hb dX9_names_67 (by decide) ?_
  refine lv_istore_n (lv' := [(2, .int 1), (4, .int 0), (3, .int 0), (0, .int 8), (1, .int wh)]) hx hb dX9_names_68 rfl hl (by decide) rfl (fun ls hl => ?_)
  refine lv_iconst (v := 1) hx hb dX9_names_69 (by decide) ?_
  refine lv_istore_n (lv' := [(3, .int 1), (2, .int 1), (4, .int 0), (0, .int 8), (1, .int wh)]) hx hb dX9_names_70 rfl hl (by decide) rfl (fun ls hl => ?_)
  refine lv_iconst (v := 1) hx hb dX9_names_71 (by decide) ?_
  refine lv_istore (lv' := [(4, .int 1), (3, .int 1), (2, .int 1), (0, .int 8), (1, .int wh)]) hx hb dX9_names_72 hl (by decide) rfl (fun ls hl => ?_)
  refine lv_goto (tgt := 605) hx hb dX9_names_74 (by decide) ?_
  refine lv_iload_n hx hb dX9_names_605 rfl (lv_at hl 4 rfl) ?_
  refine lv_if_ne (tgt := 613) hx hb dX9_names_606 (by decide) (fun c_4 => ?_) (fun c_4 => ?_)
  · refine lv_iload_n hx hb dX9_names_613 rfl (lv_at hl 4 rfl) ?_
    refine lv_iconst (v := 1) hx hb dX9_names_614 (by decide) ?_
    refine lv_icmp_ne (tgt := 622) hx hb dX9_names_615 (by decide) (fun c_5 => ?_) (fun c_5 => ?_)
    · refine lv_iload hx hb dX9_names_622 (lv_at hl 0 rfl) ?_
      exact r_iret hC hr hlk hw () rfl ((if_neg c_4).trans (if_neg c_5)).symm (Nat.le_of_ble_eq_true rfl) (Nat.le_of_ble_eq_true rfl) dX9_names_624
    · refine lv_iload_n hx hb dX9_names_618 rfl (lv_at hl 1 rfl) ?_
      refine lv_goto (tgt := 624) hx hb dX9_names_619 (by decide) ?_
      exact r_iret hC hr hlk hw () rfl ((if_neg c_4).trans (if_pos c_5)).symm (Nat.le_of_ble_eq_true rfl) (Nat.le_of_ble_eq_true rfl) dX9_names_624
  · refine lv_iload_n hx hb dX9_names_609 rfl (lv_at hl 2 rfl) ?_
    refine lv_goto (tgt := 624) hx hb dX9_names_610 (by decide) ?_
    exact r_iret hC hr hlk hw () rfl (if_pos c_4).symm (Nat.le_of_ble_eq_true rfl) (Nat.le_of_ble_eq_true rfl) dX9_names_624

set_option maxHeartbeats 4000000 in
set_option maxRecDepth 100000 in
theorem c_X9_names_9 (l : Launch) {D : va_G} {q : Nat → ClassId} (w : wT) (sz : Nat) (wh : Int32) : Met l yX9_names wsX9_names (rmz 1 22) (va_Pc [.int 9, .int wh] (rPre D q w sz)) (va_Qi (fun (r : Int32) (u : Unit) => r = if wh = 0 then 2 else if wh = 1 then 2 else 2) (fun (u : Unit) tt => rPo D (rA w sz) w tt) (rA w sz)) 0 0 (rA w sz) := by
  refine r_start (cc := cX9_names) (maxL := 6) (ret := (some .int)) (by decide) rfl (Nat.le_of_ble_eq_true rfl) ?_
  intro p e s m below meth c ls hC hr hlk hnm hsz hw hl
  have hx := hC.1
  have hb := hC.2.1
  have hl : lv_has ls 6 [(0, .int 9), (1, .int wh)] := hl
  refine lv_iconst (v := 0) hx hb dX9_names_0 (by decide) ?_
  refine lv_istore_n (lv' := [(2, .int 0), (0, .int 9), (1, .int wh)]) hx hb dX9_names_1 rfl hl (by decide) rfl (fun ls hl => ?_)
  refine lv_iconst (v := 0) hx hb dX9_names_2 (by decide) ?_
  refine lv_istore_n (lv' := [(3, .int 0), (2, .int 0), (0, .int 9), (1, .int wh)]) hx hb dX9_names_3 rfl hl (by decide) rfl (fun ls hl => ?_)
  refine lv_iconst (v := 0) hx hb dX9_names_4 (by decide) ?_
  refine lv_istore (lv' := [(4, .int 0), (3, .int 0), (2, .int 0), (0, .int 9), (1, .int wh)]) hx hb dX9_names_5 hl (by decide) rfl (fun ls hl => ?_)
  refine lv_iload_n hx hb dX9_names_7 rfl (lv_at hl 3 rfl) ?_
  refine lv_iconst (v := 1) hx hb dX9_names_8 (by decide) ?_
  refine lv_icmp_eq (tgt := 24) hx hb dX9_names_9 (by decide) (fun c_ => absurd c_ (by decide)) (fun _ => ?_)
  refine lv_iload_n hx hb dX9_names_12 rfl (lv_at hl 3 rfl) ?_
  refine lv_bipush (v := 72) hx hb dX9_names_13 (by decide) ?_
  refine lv_icmp_eq (tgt := 24) hx hb dX9_names_15 (by decide) (fun c_ => absurd c_ (by decide)) (fun _ => ?_)
  refine lv_iload_n hx hb dX9_names_18 rfl (lv_at hl 3 rfl) ?_
  refine lv_bipush (v := 73) hx hb dX9_names_19 (by decide) ?_
  refine lv_icmp_ne (tgt := 29) hx hb dX9_names_21 (by decide) (fun _ => ?_) (fun c_ => absurd c_ (by decide))
  refine lv_iload_n hx hb dX9_names_29 rfl (lv_at hl 3 rfl) ?_
  refine lv_iconst (v := 2) hx hb dX9_names_30 (by decide) ?_
  refine lv_icmp_ne (tgt := 39) hx hb dX9_names_31 (by decide) (fun _ => ?_) (fun c_ => absurd c_ (by decide))
  refine lv_iload_n hx hb dX9_names_39 rfl (lv_at hl 3 rfl) ?_
  refine lv_iconst (v := 3) hx hb dX9_names_40 (by decide) ?_
  refine lv_icmp_ne (tgt := 51) hx hb dX9_names_41 (by decide) (fun _ => ?_) (fun c_ => absurd c_ (by decide))
  refine lv_iload_n hx hb dX9_names_51 rfl (lv_at hl 3 rfl) ?_
  refine lv_iconst (v := 4) hx hb dX9_names_52 (by decide) ?_
  refine lv_bipush (v := 8) hx hb dX9_names_53 (by decide) ?_
  refine r_ki hw (r_runS (rest := []) hC hw (c_X9_isIn l _ _ 9 4 8) 3 gX9_names_X9_isIn rfl rfl rfl (by decide +kernel) ⟨Nat.le_of_ble_eq_true rfl, Nat.le_of_ble_eq_true rfl⟩ rfl hl.1 rfl (Nat.le_of_ble_eq_true rfl) dX9_names_55 ⟨Nat.le_of_ble_eq_true rfl, Nat.le_of_ble_eq_true rfl⟩) (fun r_2 u_3 H locs h_1 hw => ?_)
  rw [if_neg (by decide)] at h_1
  subst h_1
  refine lv_if_ne (tgt := 67) hx hb dX9_names_58 (by decide) (fun c_ => absurd (by decide) c_) (fun _ => ?_)
  refine lv_iload_n hx hb dX9_names_61 rfl (lv_at hl 3 rfl) ?_
  refine lv_bipush (v := 25) hx hb dX9_names_62 (by decide) ?_
  refine lv_icmp_ne (tgt := 77) hx hb dX9_names_64 (by decide) (fun _ => ?_) (fun c_ => absurd c_ (by decide))
  refine lv_iload_n hx hb dX9_names_77 rfl (lv_at hl 3 rfl) ?_
  refine lv_bipush (v := 9) hx hb dX9_names_78 (by decide) ?_
  refine lv_bipush (v := 12) hx hb dX9_names_80 (by decide) ?_
  refine r_ki hw (r_runS (rest := []) hC hw (c_X9_isIn l _ _ 9 9 12) 3 gX9_names_X9_isIn rfl rfl rfl (by decide +kernel) ⟨Nat.le_of_ble_eq_true rfl, Nat.le_of_ble_eq_true rfl⟩ rfl hl.1 rfl (Nat.le_of_ble_eq_true rfl) dX9_names_82 ⟨Nat.le_of_ble_eq_true rfl, Nat.le_of_ble_eq_true rfl⟩) (fun r_5 u_6 H locs h_4 hw => ?_)
  rw [if_pos (by decide)] at h_4
  subst h_4
  refine lv_if_eq (tgt := 98) hx hb dX9_names_85 (by decide) (fun c_ => absurd c_ (by decide)) (fun _ => ?_)
  refine lv_iconst (v := 2) hx hb dX9_names_88 (by decide) ?_
  refine lv_istore_n (lv' := [(2, .int 2), (4, .int 0), (3, .int 0), (0, .int 9), (1, .int wh)]) hx hb dX9_names_89 rfl hl (by decide) rfl (fun ls hl => ?_)
  refine lv_iconst (v := 2) hx hb dX9_names_90 (by decide) ?_
  refine lv_istore_n (lv' := [(3, .int 2), (2, .int 2), (4, .int 0), (0, .int 9), (1, .int wh)]) hx hb dX9_names_91 rfl hl (by decide) rfl (fun ls hl => ?_)
  refine lv_iconst (v := 2) hx hb dX9_names_92 (by decide) ?_
  refine lv_istore (lv' := [(4, .int 2), (3, .int 2), (2, .int 2), (0, .int 9), (1, .int wh)]) hx hb dX9_names_93 hl (by decide) rfl (fun ls hl => ?_)
  refine lv_goto (tgt := 605) hx hb dX9_names_95 (by decide) ?_
  refine lv_iload_n hx hb dX9_names_605 rfl (lv_at hl 4 rfl) ?_
  refine lv_if_ne (tgt := 613) hx hb dX9_names_606 (by decide) (fun c_7 => ?_) (fun c_7 => ?_)
  · refine lv_iload_n hx hb dX9_names_613 rfl (lv_at hl 4 rfl) ?_
    refine lv_iconst (v := 1) hx hb dX9_names_614 (by decide) ?_
    refine lv_icmp_ne (tgt := 622) hx hb dX9_names_615 (by decide) (fun c_8 => ?_) (fun c_8 => ?_)
    · refine lv_iload hx hb dX9_names_622 (lv_at hl 0 rfl) ?_
      exact r_iret hC hr hlk hw () rfl ((if_neg c_7).trans (if_neg c_8)).symm (Nat.le_of_ble_eq_true rfl) (Nat.le_of_ble_eq_true rfl) dX9_names_624
    · refine lv_iload_n hx hb dX9_names_618 rfl (lv_at hl 1 rfl) ?_
      refine lv_goto (tgt := 624) hx hb dX9_names_619 (by decide) ?_
      exact r_iret hC hr hlk hw () rfl ((if_neg c_7).trans (if_pos c_8)).symm (Nat.le_of_ble_eq_true rfl) (Nat.le_of_ble_eq_true rfl) dX9_names_624
  · refine lv_iload_n hx hb dX9_names_609 rfl (lv_at hl 2 rfl) ?_
    refine lv_goto (tgt := 624) hx hb dX9_names_610 (by decide) ?_
    exact r_iret hC hr hlk hw () rfl (if_pos c_7).symm (Nat.le_of_ble_eq_true rfl) (Nat.le_of_ble_eq_true rfl) dX9_names_624

set_option maxHeartbeats 4000000 in
set_option maxRecDepth 100000 in
theorem c_X9_names_10 (l : Launch) {D : va_G} {q : Nat → ClassId} (w : wT) (sz : Nat) (wh : Int32) : Met l yX9_names wsX9_names (rmz 1 22) (va_Pc [.int 10, .int wh] (rPre D q w sz)) (va_Qi (fun (r : Int32) (u : Unit) => r = if wh = 0 then 2 else if wh = 1 then 2 else 2) (fun (u : Unit) tt => rPo D (rA w sz) w tt) (rA w sz)) 0 0 (rA w sz) := by
  refine r_start (cc := cX9_names) (maxL := 6) (ret := (some .int)) (by decide) rfl (Nat.le_of_ble_eq_true rfl) ?_
  intro p e s m below meth c ls hC hr hlk hnm hsz hw hl
  have hx := hC.1
  have hb := hC.2.1
  have hl : lv_has ls 6 [(0, .int 10), (1, .int wh)] := hl
  refine lv_iconst (v := 0) hx hb dX9_names_0 (by decide) ?_
  refine lv_istore_n (lv' := [(2, .int 0), (0, .int 10), (1, .int wh)]) hx hb dX9_names_1 rfl hl (by decide) rfl (fun ls hl => ?_)
  refine lv_iconst (v := 0) hx hb dX9_names_2 (by decide) ?_
  refine lv_istore_n (lv' := [(3, .int 0), (2, .int 0), (0, .int 10), (1, .int wh)]) hx hb dX9_names_3 rfl hl (by decide) rfl (fun ls hl => ?_)
  refine lv_iconst (v := 0) hx hb dX9_names_4 (by decide) ?_
  refine lv_istore (lv' := [(4, .int 0), (3, .int 0), (2, .int 0), (0, .int 10), (1, .int wh)]) hx hb dX9_names_5 hl (by decide) rfl (fun ls hl => ?_)
  refine lv_iload_n hx hb dX9_names_7 rfl (lv_at hl 3 rfl) ?_
  refine lv_iconst (v := 1) hx hb dX9_names_8 (by decide) ?_
  refine lv_icmp_eq (tgt := 24) hx hb dX9_names_9 (by decide) (fun c_ => absurd c_ (by decide)) (fun _ => ?_)
  refine lv_iload_n hx hb dX9_names_12 rfl (lv_at hl 3 rfl) ?_
  refine lv_bipush (v := 72) hx hb dX9_names_13 (by decide) ?_
  refine lv_icmp_eq (tgt := 24) hx hb dX9_names_15 (by decide) (fun c_ => absurd c_ (by decide)) (fun _ => ?_)
  refine lv_iload_n hx hb dX9_names_18 rfl (lv_at hl 3 rfl) ?_
  refine lv_bipush (v := 73) hx hb dX9_names_19 (by decide) ?_
  refine lv_icmp_ne (tgt := 29) hx hb dX9_names_21 (by decide) (fun _ => ?_) (fun c_ => absurd c_ (by decide))
  refine lv_iload_n hx hb dX9_names_29 rfl (lv_at hl 3 rfl) ?_
  refine lv_iconst (v := 2) hx hb dX9_names_30 (by decide) ?_
  refine lv_icmp_ne (tgt := 39) hx hb dX9_names_31 (by decide) (fun _ => ?_) (fun c_ => absurd c_ (by decide))
  refine lv_iload_n hx hb dX9_names_39 rfl (lv_at hl 3 rfl) ?_
  refine lv_iconst (v := 3) hx hb dX9_names_40 (by decide) ?_
  refine lv_icmp_ne (tgt := 51) hx hb dX9_names_41 (by decide) (fun _ => ?_) (fun c_ => absurd c_ (by decide))
  refine lv_iload_n hx hb dX9_names_51 rfl (lv_at hl 3 rfl) ?_
  refine lv_iconst (v := 4) hx hb dX9_names_52 (by decide) ?_
  refine lv_bipush (v := 8) hx hb dX9_names_53 (by decide) ?_
  refine r_ki hw (r_runS (rest := []) hC hw (c_X9_isIn l _ _ 10 4 8) 3 gX9_names_X9_isIn rfl rfl rfl (by decide +kernel) ⟨Nat.le_of_ble_eq_true rfl, Nat.le_of_ble_eq_true rfl⟩ rfl hl.1 rfl (Nat.le_of_ble_eq_true rfl) dX9_names_55 ⟨Nat.le_of_ble_eq_true rfl, Nat.le_of_ble_eq_true rfl⟩) (fun r_2 u_3 H locs h_1 hw => ?_)
  rw [if_neg (by decide)] at h_1
  subst h_1
  refine lv_if_ne (tgt := 67) hx hb dX9_names_58 (by decide) (fun c_ => absurd (by decide) c_) (fun _ => ?_)
  refine lv_iload_n hx hb dX9_names_61 rfl (lv_at hl 3 rfl) ?_
  refine lv_bipush (v := 25) hx hb dX9_names_62 (by decide) ?_
  refine lv_icmp_ne (tgt := 77) hx hb dX9_names_64 (by decide) (fun _ => ?_) (fun c_ => absurd c_ (by decide))
  refine lv_iload_n hx hb dX9_names_77 rfl (lv_at hl 3 rfl) ?_
  refine lv_bipush (v := 9) hx hb dX9_names_78 (by decide) ?_
  refine lv_bipush (v := 12) hx hb dX9_names_80 (by decide) ?_
  refine r_ki hw (r_runS (rest := []) hC hw (c_X9_isIn l _ _ 10 9 12) 3 gX9_names_X9_isIn rfl rfl rfl (by decide +kernel) ⟨Nat.le_of_ble_eq_true rfl, Nat.le_of_ble_eq_true rfl⟩ rfl hl.1 rfl (Nat.le_of_ble_eq_true rfl) dX9_names_82 ⟨Nat.le_of_ble_eq_true rfl, Nat.le_of_ble_eq_true rfl⟩) (fun r_5 u_6 H locs h_4 hw => ?_)
  rw [if_pos (by decide)] at h_4
  subst h_4
  refine lv_if_eq (tgt := 98) hx hb dX9_names_85 (by decide) (fun c_ => absurd c_ (by decide)) (fun _ => ?_)
  refine lv_iconst (v := 2) hx hb dX9_names_88 (by decide) ?_
  refine lv_istore_n (lv' := [(2, .int 2), (4, .int 0), (3, .int 0), (0, .int 10), (1, .int wh)]) hx hb dX9_names_89 rfl hl (by decide) rfl (fun ls hl => ?_)
  refine lv_iconst (v := 2) hx hb dX9_names_90 (by decide) ?_
  refine lv_istore_n (lv' := [(3, .int 2), (2, .int 2), (4, .int 0), (0, .int 10), (1, .int wh)]) hx hb dX9_names_91 rfl hl (by decide) rfl (fun ls hl => ?_)
  refine lv_iconst (v := 2) hx hb dX9_names_92 (by decide) ?_
  refine lv_istore (lv' := [(4, .int 2), (3, .int 2), (2, .int 2), (0, .int 10), (1, .int wh)]) hx hb dX9_names_93 hl (by decide) rfl (fun ls hl => ?_)
  refine lv_goto (tgt := 605) hx hb dX9_names_95 (by decide) ?_
  refine lv_iload_n hx hb dX9_names_605 rfl (lv_at hl 4 rfl) ?_
  refine lv_if_ne (tgt := 613) hx hb dX9_names_606 (by decide) (fun c_7 => ?_) (fun c_7 => ?_)
  · refine lv_iload_n hx hb dX9_names_613 rfl (lv_at hl 4 rfl) ?_
    refine lv_iconst (v := 1) hx hb dX9_names_614 (by decide) ?_
    refine lv_icmp_ne (tgt := 622) hx hb dX9_names_615 (by decide) (fun c_8 => ?_) (fun c_8 => ?_)
    · refine lv_iload hx hb dX9_names_622 (lv_at hl 0 rfl) ?_
      exact r_iret hC hr hlk hw () rfl ((if_neg c_7).trans (if_neg c_8)).symm (Nat.le_of_ble_eq_true rfl) (Nat.le_of_ble_eq_true rfl) dX9_names_624
    · refine lv_iload_n hx hb dX9_names_618 rfl (lv_at hl 1 rfl) ?_
      refine lv_goto (tgt := 624) hx hb dX9_names_619 (by decide) ?_
      exact r_iret hC hr hlk hw () rfl ((if_neg c_7).trans (if_pos c_8)).symm (Nat.le_of_ble_eq_true rfl) (Nat.le_of_ble_eq_true rfl) dX9_names_624
  · refine lv_iload_n hx hb dX9_names_609 rfl (lv_at hl 2 rfl) ?_
    refine lv_goto (tgt := 624) hx hb dX9_names_610 (by decide) ?_
    exact r_iret hC hr hlk hw () rfl (if_pos c_7).symm (Nat.le_of_ble_eq_true rfl) (Nat.le_of_ble_eq_true rfl) dX9_names_624

set_option maxHeartbeats 4000000 in
set_option maxRecDepth 100000 in
theorem c_X9_names_11 (l : Launch) {D : va_G} {q : Nat → ClassId} (w : wT) (sz : Nat) (wh : Int32) : Met l yX9_names wsX9_names (rmz 1 22) (va_Pc [.int 11, .int wh] (rPre D q w sz)) (va_Qi (fun (r : Int32) (u : Unit) => r = if wh = 0 then 2 else if wh = 1 then 2 else 2) (fun (u : Unit) tt => rPo D (rA w sz) w tt) (rA w sz)) 0 0 (rA w sz) := by
  refine r_start (cc := cX9_names) (maxL := 6) (ret := (some .int)) (by decide) rfl (Nat.le_of_ble_eq_true rfl) ?_
  intro p e s m below meth c ls hC hr hlk hnm hsz hw hl
  have hx := hC.1
  have hb := hC.2.1
  have hl : lv_has ls 6 [(0, .int 11), (1, .int wh)] := hl
  refine lv_iconst (v := 0) hx hb dX9_names_0 (by decide) ?_
  refine lv_istore_n (lv' := [(2, .int 0), (0, .int 11), (1, .int wh)]) hx hb dX9_names_1 rfl hl (by decide) rfl (fun ls hl => ?_)
  refine lv_iconst (v := 0) hx hb dX9_names_2 (by decide) ?_
  refine lv_istore_n (lv' := [(3, .int 0), (2, .int 0), (0, .int 11), (1, .int wh)]) hx hb dX9_names_3 rfl hl (by decide) rfl (fun ls hl => ?_)
  refine lv_iconst (v := 0) hx hb dX9_names_4 (by decide) ?_
  refine lv_istore (lv' := [(4, .int 0), (3, .int 0), (2, .int 0), (0, .int 11), (1, .int wh)]) hx hb dX9_names_5 hl (by decide) rfl (fun ls hl => ?_)
  refine lv_iload_n hx hb dX9_names_7 rfl (lv_at hl 3 rfl) ?_
  refine lv_iconst (v := 1) hx hb dX9_names_8 (by decide) ?_
  refine lv_icmp_eq (tgt := 24) hx hb dX9_names_9 (by decide) (fun c_ => absurd c_ (by decide)) (fun _ => ?_)
  refine lv_iload_n hx hb dX9_names_12 rfl (lv_at hl 3 rfl) ?_
  refine lv_bipush (v := 72) hx hb dX9_names_13 (by decide) ?_
  refine lv_icmp_eq (tgt := 24) hx hb dX9_names_15 (by decide) (fun c_ => absurd c_ (by decide)) (fun _ => ?_)
  refine lv_iload_n hx hb dX9_names_18 rfl (lv_at hl 3 rfl) ?_
  refine lv_bipush (v := 73) hx hb dX9_names_19 (by decide) ?_
  refine lv_icmp_ne (tgt := 29) hx hb dX9_names_21 (by decide) (fun _ => ?_) (fun c_ => absurd c_ (by decide))
  refine lv_iload_n hx hb dX9_names_29 rfl (lv_at hl 3 rfl) ?_
  refine lv_iconst (v := 2) hx hb dX9_names_30 (by decide) ?_
  refine lv_icmp_ne (tgt := 39) hx hb dX9_names_31 (by decide) (fun _ => ?_) (fun c_ => absurd c_ (by decide))
  refine lv_iload_n hx hb dX9_names_39 rfl (lv_at hl 3 rfl) ?_
  refine lv_iconst (v := 3) hx hb dX9_names_40 (by decide) ?_
  refine lv_icmp_ne (tgt := 51) hx hb dX9_names_41 (by decide) (fun _ => ?_) (fun c_ => absurd c_ (by decide))
  refine lv_iload_n hx hb dX9_names_51 rfl (lv_at hl 3 rfl) ?_
  refine lv_iconst (v := 4) hx hb dX9_names_52 (by decide) ?_
  refine lv_bipush (v := 8) hx hb dX9_names_53 (by decide) ?_
  refine r_ki hw (r_runS (rest := []) hC hw (c_X9_isIn l _ _ 11 4 8) 3 gX9_names_X9_isIn rfl rfl rfl (by decide +kernel) ⟨Nat.le_of_ble_eq_true rfl, Nat.le_of_ble_eq_true rfl⟩ rfl hl.1 rfl (Nat.le_of_ble_eq_true rfl) dX9_names_55 ⟨Nat.le_of_ble_eq_true rfl, Nat.le_of_ble_eq_true rfl⟩) (fun r_2 u_3 H locs h_1 hw => ?_)
  rw [if_neg (by decide)] at h_1
  subst h_1
  refine lv_if_ne (tgt := 67) hx hb dX9_names_58 (by decide) (fun c_ => absurd (by decide) c_) (fun _ => ?_)
  refine lv_iload_n hx hb dX9_names_61 rfl (lv_at hl 3 rfl) ?_
  refine lv_bipush (v := 25) hx hb dX9_names_62 (by decide) ?_
  refine lv_icmp_ne (tgt := 77) hx hb dX9_names_64 (by decide) (fun _ => ?_) (fun c_ => absurd c_ (by decide))
  refine lv_iload_n hx hb dX9_names_77 rfl (lv_at hl 3 rfl) ?_
  refine lv_bipush (v := 9) hx hb dX9_names_78 (by decide) ?_
  refine lv_bipush (v := 12) hx hb dX9_names_80 (by decide) ?_
  refine r_ki hw (r_runS (rest := []) hC hw (c_X9_isIn l _ _ 11 9 12) 3 gX9_names_X9_isIn rfl rfl rfl (by decide +kernel) ⟨Nat.le_of_ble_eq_true rfl, Nat.le_of_ble_eq_true rfl⟩ rfl hl.1 rfl (Nat.le_of_ble_eq_true rfl) dX9_names_82 ⟨Nat.le_of_ble_eq_true rfl, Nat.le_of_ble_eq_true rfl⟩) (fun r_5 u_6 H locs h_4 hw => ?_)
  rw [if_pos (by decide)] at h_4
  subst h_4
  refine lv_if_eq (tgt := 98) hx hb dX9_names_85 (by decide) (fun c_ => absurd c_ (by decide)) (fun _ => ?_)
  refine lv_iconst (v := 2) hx hb dX9_names_88 (by decide) ?_
  refine lv_istore_n (lv' := [(2, .int 2), (4, .int 0), (3, .int 0), (0, .int 11), (1, .int wh)]) hx hb dX9_names_89 rfl hl (by decide) rfl (fun ls hl => ?_)
  refine lv_iconst (v := 2) hx hb dX9_names_90 (by decide) ?_
  refine lv_istore_n (lv' := [(3, .int 2), (2, .int 2), (4, .int 0), (0, .int 11), (1, .int wh)]) hx hb dX9_names_91 rfl hl (by decide) rfl (fun ls hl => ?_)
  refine lv_iconst (v := 2) hx hb dX9_names_92 (by decide) ?_
  refine lv_istore (lv' := [(4, .int 2), (3, .int 2), (2, .int 2), (0, .int 11), (1, .int wh)]) hx hb dX9_names_93 hl (by decide) rfl (fun ls hl => ?_)
  refine lv_goto (tgt := 605) hx hb dX9_names_95 (by decide) ?_
  refine lv_iload_n hx hb dX9_names_605 rfl (lv_at hl 4 rfl) ?_
  refine lv_if_ne (tgt := 613) hx hb dX9_names_606 (by decide) (fun c_7 => ?_) (fun c_7 => ?_)
  · refine lv_iload_n hx hb dX9_names_613 rfl (lv_at hl 4 rfl) ?_
    refine lv_iconst (v := 1) hx hb dX9_names_614 (by decide) ?_
    refine lv_icmp_ne (tgt := 622) hx hb dX9_names_615 (by decide) (fun c_8 => ?_) (fun c_8 => ?_)
    · refine lv_iload hx hb dX9_names_622 (lv_at hl 0 rfl) ?_
      exact r_iret hC hr hlk hw () rfl ((if_neg c_7).trans (if_neg c_8)).symm (Nat.le_of_ble_eq_true rfl) (Nat.le_of_ble_eq_true rfl) dX9_names_624
    · refine lv_iload_n hx hb dX9_names_618 rfl (lv_at hl 1 rfl) ?_
      refine lv_goto (tgt := 624) hx hb dX9_names_619 (by decide) ?_
      exact r_iret hC hr hlk hw () rfl ((if_neg c_7).trans (if_pos c_8)).symm (Nat.le_of_ble_eq_true rfl) (Nat.le_of_ble_eq_true rfl) dX9_names_624
  · refine lv_iload_n hx hb dX9_names_609 rfl (lv_at hl 2 rfl) ?_
    refine lv_goto (tgt := 624) hx hb dX9_names_610 (by decide) ?_
    exact r_iret hC hr hlk hw () rfl (if_pos c_7).symm (Nat.le_of_ble_eq_true rfl) (Nat.le_of_ble_eq_true rfl) dX9_names_624

set_option maxHeartbeats 4000000 in
set_option maxRecDepth 100000 in
theorem c_X9_names_12 (l : Launch) {D : va_G} {q : Nat → ClassId} (w : wT) (sz : Nat) (wh : Int32) : Met l yX9_names wsX9_names (rmz 1 22) (va_Pc [.int 12, .int wh] (rPre D q w sz)) (va_Qi (fun (r : Int32) (u : Unit) => r = if wh = 0 then 2 else if wh = 1 then 2 else 2) (fun (u : Unit) tt => rPo D (rA w sz) w tt) (rA w sz)) 0 0 (rA w sz) := by
  refine r_start (cc := cX9_names) (maxL := 6) (ret := (some .int)) (by decide) rfl (Nat.le_of_ble_eq_true rfl) ?_
  intro p e s m below meth c ls hC hr hlk hnm hsz hw hl
  have hx := hC.1
  have hb := hC.2.1
  have hl : lv_has ls 6 [(0, .int 12), (1, .int wh)] := hl
  refine lv_iconst (v := 0) hx hb dX9_names_0 (by decide) ?_
  refine lv_istore_n (lv' := [(2, .int 0), (0, .int 12), (1, .int wh)]) hx hb dX9_names_1 rfl hl (by decide) rfl (fun ls hl => ?_)
  refine lv_iconst (v := 0) hx hb dX9_names_2 (by decide) ?_
  refine lv_istore_n (lv' := [(3, .int 0), (2, .int 0), (0, .int 12), (1, .int wh)]) hx hb dX9_names_3 rfl hl (by decide) rfl (fun ls hl => ?_)
  refine lv_iconst (v := 0) hx hb dX9_names_4 (by decide) ?_
  refine lv_istore (lv' := [(4, .int 0), (3, .int 0), (2, .int 0), (0, .int 12), (1, .int wh)]) hx hb dX9_names_5 hl (by decide) rfl (fun ls hl => ?_)
  refine lv_iload_n hx hb dX9_names_7 rfl (lv_at hl 3 rfl) ?_
  refine lv_iconst (v := 1) hx hb dX9_names_8 (by decide) ?_
  refine lv_icmp_eq (tgt := 24) hx hb dX9_names_9 (by decide) (fun c_ => absurd c_ (by decide)) (fun _ => ?_)
  refine lv_iload_n hx hb dX9_names_12 rfl (lv_at hl 3 rfl) ?_
  refine lv_bipush (v := 72) hx hb dX9_names_13 (by decide) ?_
  refine lv_icmp_eq (tgt := 24) hx hb dX9_names_15 (by decide) (fun c_ => absurd c_ (by decide)) (fun _ => ?_)
  refine lv_iload_n hx hb dX9_names_18 rfl (lv_at hl 3 rfl) ?_
  refine lv_bipush (v := 73) hx hb dX9_names_19 (by decide) ?_
  refine lv_icmp_ne (tgt := 29) hx hb dX9_names_21 (by decide) (fun _ => ?_) (fun c_ => absurd c_ (by decide))
  refine lv_iload_n hx hb dX9_names_29 rfl (lv_at hl 3 rfl) ?_
  refine lv_iconst (v := 2) hx hb dX9_names_30 (by decide) ?_
  refine lv_icmp_ne (tgt := 39) hx hb dX9_names_31 (by decide) (fun _ => ?_) (fun c_ => absurd c_ (by decide))
  refine lv_iload_n hx hb dX9_names_39 rfl (lv_at hl 3 rfl) ?_
  refine lv_iconst (v := 3) hx hb dX9_names_40 (by decide) ?_
  refine lv_icmp_ne (tgt := 51) hx hb dX9_names_41 (by decide) (fun _ => ?_) (fun c_ => absurd c_ (by decide))
  refine lv_iload_n hx hb dX9_names_51 rfl (lv_at hl 3 rfl) ?_
  refine lv_iconst (v := 4) hx hb dX9_names_52 (by decide) ?_
  refine lv_bipush (v := 8) hx hb dX9_names_53 (by decide) ?_
  refine r_ki hw (r_runS (rest := []) hC hw (c_X9_isIn l _ _ 12 4 8) 3 gX9_names_X9_isIn rfl rfl rfl (by decide +kernel) ⟨Nat.le_of_ble_eq_true rfl, Nat.le_of_ble_eq_true rfl⟩ rfl hl.1 rfl (Nat.le_of_ble_eq_true rfl) dX9_names_55 ⟨Nat.le_of_ble_eq_true rfl, Nat.le_of_ble_eq_true rfl⟩) (fun r_2 u_3 H locs h_1 hw => ?_)
  rw [if_neg (by decide)] at h_1
  subst h_1
  refine lv_if_ne (tgt := 67) hx hb dX9_names_58 (by decide) (fun c_ => absurd (by decide) c_) (fun _ => ?_)
  refine lv_iload_n hx hb dX9_names_61 rfl (lv_at hl 3 rfl) ?_
  refine lv_bipush (v := 25) hx hb dX9_names_62 (by decide) ?_
  refine lv_icmp_ne (tgt := 77) hx hb dX9_names_64 (by decide) (fun _ => ?_) (fun c_ => absurd c_ (by decide))
  refine lv_iload_n hx hb dX9_names_77 rfl (lv_at hl 3 rfl) ?_
  refine lv_bipush (v := 9) hx hb dX9_names_78 (by decide) ?_
  refine lv_bipush (v := 12) hx hb dX9_names_80 (by decide) ?_
  refine r_ki hw (r_runS (rest := []) hC hw (c_X9_isIn l _ _ 12 9 12) 3 gX9_names_X9_isIn rfl rfl rfl (by decide +kernel) ⟨Nat.le_of_ble_eq_true rfl, Nat.le_of_ble_eq_true rfl⟩ rfl hl.1 rfl (Nat.le_of_ble_eq_true rfl) dX9_names_82 ⟨Nat.le_of_ble_eq_true rfl, Nat.le_of_ble_eq_true rfl⟩) (fun r_5 u_6 H locs h_4 hw => ?_)
  rw [if_pos (by decide)] at h_4
  subst h_4
  refine lv_if_eq (tgt := 98) hx hb dX9_names_85 (by decide) (fun c_ => absurd c_ (by decide)) (fun _ => ?_)
  refine lv_iconst (v := 2) hx hb dX9_names_88 (by decide) ?_
  refine lv_istore_n (lv' := [(2, .int 2), (4, .int 0), (3, .int 0), (0, .int 12), (1, .int wh)]) hx hb dX9_names_89 rfl hl (by decide) rfl (fun ls hl => ?_)
  refine lv_iconst (v := 2) hx hb dX9_names_90 (by decide) ?_
  refine lv_istore_n (lv' := [(3, .int 2), (2, .int 2), (4, .int 0), (0, .int 12), (1, .int wh)]) hx hb dX9_names_91 rfl hl (by decide) rfl (fun ls hl => ?_)
  refine lv_iconst (v := 2) hx hb dX9_names_92 (by decide) ?_
  refine lv_istore (lv' := [(4, .int 2), (3, .int 2), (2, .int 2), (0, .int 12), (1, .int wh)]) hx hb dX9_names_93 hl (by decide) rfl (fun ls hl => ?_)
  refine lv_goto (tgt := 605) hx hb dX9_names_95 (by decide) ?_
  refine lv_iload_n hx hb dX9_names_605 rfl (lv_at hl 4 rfl) ?_
  refine lv_if_ne (tgt := 613) hx hb dX9_names_606 (by decide) (fun c_7 => ?_) (fun c_7 => ?_)
  · refine lv_iload_n hx hb dX9_names_613 rfl (lv_at hl 4 rfl) ?_
    refine lv_iconst (v := 1) hx hb dX9_names_614 (by decide) ?_
    refine lv_icmp_ne (tgt := 622) hx hb dX9_names_615 (by decide) (fun c_8 => ?_) (fun c_8 => ?_)
    · refine lv_iload hx hb dX9_names_622 (lv_at hl 0 rfl) ?_
      exact r_iret hC hr hlk hw () rfl ((if_neg c_7).trans (if_neg c_8)).symm (Nat.le_of_ble_eq_true rfl) (Nat.le_of_ble_eq_true rfl) dX9_names_624
    · refine lv_iload_n hx hb dX9_names_618 rfl (lv_at hl 1 rfl) ?_
      refine lv_goto (tgt := 624) hx hb dX9_names_619 (by decide) ?_
      exact r_iret hC hr hlk hw () rfl ((if_neg c_7).trans (if_pos c_8)).symm (Nat.le_of_ble_eq_true rfl) (Nat.le_of_ble_eq_true rfl) dX9_names_624
  · refine lv_iload_n hx hb dX9_names_609 rfl (lv_at hl 2 rfl) ?_
    refine lv_goto (tgt := 624) hx hb dX9_names_610 (by decide) ?_
    exact r_iret hC hr hlk hw () rfl (if_pos c_7).symm (Nat.le_of_ble_eq_true rfl) (Nat.le_of_ble_eq_true rfl) dX9_names_624

set_option maxHeartbeats 4000000 in
set_option maxRecDepth 100000 in
theorem c_X9_names_13 (l : Launch) {D : va_G} {q : Nat → ClassId} (w : wT) (sz : Nat) (wh : Int32) : Met l yX9_names wsX9_names (rmz 1 22) (va_Pc [.int 13, .int wh] (rPre D q w sz)) (va_Qi (fun (r : Int32) (u : Unit) => r = if wh = 0 then 2 else if wh = 1 then 1 else 0) (fun (u : Unit) tt => rPo D (rA w sz) w tt) (rA w sz)) 0 0 (rA w sz) := by
  refine r_start (cc := cX9_names) (maxL := 6) (ret := (some .int)) (by decide) rfl (Nat.le_of_ble_eq_true rfl) ?_
  intro p e s m below meth c ls hC hr hlk hnm hsz hw hl
  have hx := hC.1
  have hb := hC.2.1
  have hl : lv_has ls 6 [(0, .int 13), (1, .int wh)] := hl
  refine lv_iconst (v := 0) hx hb dX9_names_0 (by decide) ?_
  refine lv_istore_n (lv' := [(2, .int 0), (0, .int 13), (1, .int wh)]) hx hb dX9_names_1 rfl hl (by decide) rfl (fun ls hl => ?_)
  refine lv_iconst (v := 0) hx hb dX9_names_2 (by decide) ?_
  refine lv_istore_n (lv' := [(3, .int 0), (2, .int 0), (0, .int 13), (1, .int wh)]) hx hb dX9_names_3 rfl hl (by decide) rfl (fun ls hl => ?_)
  refine lv_iconst (v := 0) hx hb dX9_names_4 (by decide) ?_
  refine lv_istore (lv' := [(4, .int 0), (3, .int 0), (2, .int 0), (0, .int 13), (1, .int wh)]) hx hb dX9_names_5 hl (by decide) rfl (fun ls hl => ?_)
  refine lv_iload_n hx hb dX9_names_7 rfl (lv_at hl 3 rfl) ?_
  refine lv_iconst (v := 1) hx hb dX9_names_8 (by decide) ?_
  refine lv_icmp_eq (tgt := 24) hx hb dX9_names_9 (by decide) (fun c_ => absurd c_ (by decide)) (fun _ => ?_)
  refine lv_iload_n hx hb dX9_names_12 rfl (lv_at hl 3 rfl) ?_
  refine lv_bipush (v := 72) hx hb dX9_names_13 (by decide) ?_
  refine lv_icmp_eq (tgt := 24) hx hb dX9_names_15 (by decide) (fun c_ => absurd c_ (by decide)) (fun _ => ?_)
  refine lv_iload_n hx hb dX9_names_18 rfl (lv_at hl 3 rfl) ?_
  refine lv_bipush (v := 73) hx hb dX9_names_19 (by decide) ?_
  refine lv_icmp_ne (tgt := 29) hx hb dX9_names_21 (by decide) (fun _ => ?_) (fun c_ => absurd c_ (by decide))
  refine lv_iload_n hx hb dX9_names_29 rfl (lv_at hl 3 rfl) ?_
  refine lv_iconst (v := 2) hx hb dX9_names_30 (by decide) ?_
  refine lv_icmp_ne (tgt := 39) hx hb dX9_names_31 (by decide) (fun _ => ?_) (fun c_ => absurd c_ (by decide))
  refine lv_iload_n hx hb dX9_names_39 rfl (lv_at hl 3 rfl) ?_
  refine lv_iconst (v := 3) hx hb dX9_names_40 (by decide) ?_
  refine lv_icmp_ne (tgt := 51) hx hb dX9_names_41 (by decide) (fun _ => ?_) (fun c_ => absurd c_ (by decide))
  refine lv_iload_n hx hb dX9_names_51 rfl (lv_at hl 3 rfl) ?_
  refine lv_iconst (v := 4) hx hb dX9_names_52 (by decide) ?_
  refine lv_bipush (v := 8) hx hb dX9_names_53 (by decide) ?_
  refine r_ki hw (r_runS (rest := []) hC hw (c_X9_isIn l _ _ 13 4 8) 3 gX9_names_X9_isIn rfl rfl rfl (by decide +kernel) ⟨Nat.le_of_ble_eq_true rfl, Nat.le_of_ble_eq_true rfl⟩ rfl hl.1 rfl (Nat.le_of_ble_eq_true rfl) dX9_names_55 ⟨Nat.le_of_ble_eq_true rfl, Nat.le_of_ble_eq_true rfl⟩) (fun r_2 u_3 H locs h_1 hw => ?_)
  rw [if_neg (by decide)] at h_1
  subst h_1
  refine lv_if_ne (tgt := 67) hx hb dX9_names_58 (by decide) (fun c_ => absurd (by decide) c_) (fun _ => ?_)
  refine lv_iload_n hx hb dX9_names_61 rfl (lv_at hl 3 rfl) ?_
  refine lv_bipush (v := 25) hx hb dX9_names_62 (by decide) ?_
  refine lv_icmp_ne (tgt := 77) hx hb dX9_names_64 (by decide) (fun _ => ?_) (fun c_ => absurd c_ (by decide))
  refine lv_iload_n hx hb dX9_names_77 rfl (lv_at hl 3 rfl) ?_
  refine lv_bipush (v := 9) hx hb dX9_names_78 (by decide) ?_
  refine lv_bipush (v := 12) hx hb dX9_names_80 (by decide) ?_
  refine r_ki hw (r_runS (rest := []) hC hw (c_X9_isIn l _ _ 13 9 12) 3 gX9_names_X9_isIn rfl rfl rfl (by decide +kernel) ⟨Nat.le_of_ble_eq_true rfl, Nat.le_of_ble_eq_true rfl⟩ rfl hl.1 rfl (Nat.le_of_ble_eq_true rfl) dX9_names_82 ⟨Nat.le_of_ble_eq_true rfl, Nat.le_of_ble_eq_true rfl⟩) (fun r_5 u_6 H locs h_4 hw => ?_)
  rw [if_neg (by decide)] at h_4
  subst h_4
  refine lv_if_eq (tgt := 98) hx hb dX9_names_85 (by decide) (fun _ => ?_) (fun c_ => absurd (by decide) c_)
  refine lv_iload_n hx hb dX9_names_98 rfl (lv_at hl 3 rfl) ?_
  refine lv_bipush (v := 13) hx hb dX9_names_99 (by decide) ?_
  refine lv_bipush (v := 24) hx hb dX9_names_101 (by decide) ?_
  refine r_ki hw (r_runS (rest := []) hC hw (c_X9_isIn l _ _ 13 13 24) 3 gX9_names_X9_isIn rfl rfl rfl (by decide +kernel) ⟨Nat.le_of_ble_eq_true rfl, Nat.le_of_ble_eq_true rfl⟩ rfl hl.1 rfl (Nat.le_of_ble_eq_true rfl) dX9_names_103 ⟨Nat.le_of_ble_eq_true rfl, Nat.le_of_ble_eq_true rfl⟩) (fun r_8 u_9 H locs h_7 hw => ?_)
  rw [if_pos (by decide)] at h_7
  subst h_7
  refine lv_if_ne (tgt := 115) hx hb dX9_names_106 (by decide) (fun _ => ?_) (fun c_ => absurd c_ (by decide))
  refine lv_iload_n hx hb dX9_names_115 rfl (lv_at hl 3 rfl) ?_
  refine lv_bipush (v := 13) hx hb dX9_names_116 (by decide) ?_
  refine lv_icmp_eq (tgt := 127) hx hb dX9_names_118 (by decide) (fun _ => ?_) (fun c_ => absurd (by decide) c_)
  refine lv_iconst (v := 2) hx hb dX9_names_127 (by decide) ?_
  refine lv_goto (tgt := 182) hx hb dX9_names_128 (by decide) ?_
  refine lv_istore_n (lv' := [(2, .int 2), (4, .int 0), (3, .int 0), (0, .int 13), (1, .int wh)]) hx hb dX9_names_182 rfl hl (by decide) rfl (fun ls hl => ?_)
  refine lv_iload_n hx hb dX9_names_183 rfl (lv_at hl 3 rfl) ?_
  refine lv_bipush (v := 13) hx hb dX9_names_184 (by decide) ?_
  refine lv_icmp_ne (tgt := 193) hx hb dX9_names_186 (by decide) (fun c_ => absurd (by decide) c_) (fun _ => ?_)
  refine lv_iconst (v := 1) hx hb dX9_names_189 (by decide) ?_
  refine lv_goto (tgt := 237) hx hb dX9_names_190 (by decide) ?_
  refine lv_istore_n (lv' := [(3, .int 1), (2, .int 2), (4, .int 0), (0, .int 13), (1, .int wh)]) hx hb dX9_names_237 rfl hl (by decide) rfl (fun ls hl => ?_)
  refine lv_iload_n hx hb dX9_names_238 rfl (lv_at hl 3 rfl) ?_
  refine lv_bipush (v := 23) hx hb dX9_names_239 (by decide) ?_
  refine lv_icmp_ne (tgt := 248) hx hb dX9_names_241 (by decide) (fun _ => ?_) (fun c_ => absurd c_ (by decide))
  refine lv_iload_n hx hb dX9_names_248 rfl (lv_at hl 3 rfl) ?_
  refine lv_bipush (v := 24) hx hb dX9_names_249 (by decide) ?_
  refine lv_icmp_eq (tgt := 260) hx hb dX9_names_251 (by decide) (fun c_ => absurd c_ (by decide)) (fun _ => ?_)
  refine lv_iload_n hx hb dX9_names_254 rfl (lv_at hl 3 rfl) ?_
  refine lv_bipush (v := 26) hx hb dX9_names_255 (by decide) ?_
  refine lv_icmp_ne (tgt := 264) hx hb dX9_names_257 (by decide) (fun _ => ?_) (fun c_ => absurd c_ (by decide))
  refine lv_iconst (v := 0) hx hb dX9_names_264 (by decide) ?_
  refine lv_istore (lv' := [(4, .int 0), (3, .int 1), (2, .int 2), (0, .int 13), (1, .int wh)]) hx hb dX9_names_265 hl (by decide) rfl (fun ls hl => ?_)
  refine lv_goto (tgt := 605) hx hb dX9_names_267 (by decide) ?_
  refine lv_iload_n hx hb dX9_names_605 rfl (lv_at hl 4 rfl) ?_
  refine lv_if_ne (tgt := 613) hx hb dX9_names_606 (by decide) (fun c_10 => ?_) (fun c_10 => ?_)
  · refine lv_iload_n hx hb dX9_names_613 rfl (lv_at hl 4 rfl) ?_
    refine lv_iconst (v := 1) hx hb dX9_names_614 (by decide) ?_
    refine lv_icmp_ne (tgt := 622) hx hb dX9_names_615 (by decide) (fun c_11 => ?_) (fun c_11 => ?_)
    · refine lv_iload hx hb dX9_names_622 (lv_at hl 0 rfl) ?_
      exact r_iret hC hr hlk hw () rfl ((if_neg c_10).trans (if_neg c_11)).symm (Nat.le_of_ble_eq_true rfl) (Nat.le_of_ble_eq_true rfl) dX9_names_624
    · refine lv_iload_n hx hb dX9_names_618 rfl (lv_at hl 1 rfl) ?_
      refine lv_goto (tgt := 624) hx hb dX9_names_619 (by decide) ?_
      exact r_iret hC hr hlk hw () rfl ((if_neg c_10).trans (if_pos c_11)).symm (Nat.le_of_ble_eq_true rfl) (Nat.le_of_ble_eq_true rfl) dX9_names_624
  · refine lv_iload_n hx hb dX9_names_609 rfl (lv_at hl 2 rfl) ?_
    refine lv_goto (tgt := 624) hx hb dX9_names_610 (by decide) ?_
    exact r_iret hC hr hlk hw () rfl (if_pos c_10).symm (Nat.le_of_ble_eq_true rfl) (Nat.le_of_ble_eq_true rfl) dX9_names_624

set_option maxHeartbeats 4000000 in
set_option maxRecDepth 100000 in
theorem c_X9_names_14 (l : Launch) {D : va_G} {q : Nat → ClassId} (w : wT) (sz : Nat) (wh : Int32) : Met l yX9_names wsX9_names (rmz 1 22) (va_Pc [.int 14, .int wh] (rPre D q w sz)) (va_Qi (fun (r : Int32) (u : Unit) => r = if wh = 0 then 1 else if wh = 1 then 2 else 0) (fun (u : Unit) tt => rPo D (rA w sz) w tt) (rA w sz)) 0 0 (rA w sz) := by
  refine r_start (cc := cX9_names) (maxL := 6) (ret := (some .int)) (by decide) rfl (Nat.le_of_ble_eq_true rfl) ?_
  intro p e s m below meth c ls hC hr hlk hnm hsz hw hl
  have hx := hC.1
  have hb := hC.2.1
  have hl : lv_has ls 6 [(0, .int 14), (1, .int wh)] := hl
  refine lv_iconst (v := 0) hx hb dX9_names_0 (by decide) ?_
  refine lv_istore_n (lv' := [(2, .int 0), (0, .int 14), (1, .int wh)]) hx hb dX9_names_1 rfl hl (by decide) rfl (fun ls hl => ?_)
  refine lv_iconst (v := 0) hx hb dX9_names_2 (by decide) ?_
  refine lv_istore_n (lv' := [(3, .int 0), (2, .int 0), (0, .int 14), (1, .int wh)]) hx hb dX9_names_3 rfl hl (by decide) rfl (fun ls hl => ?_)
  refine lv_iconst (v := 0) hx hb dX9_names_4 (by decide) ?_
  refine lv_istore (lv' := [(4, .int 0), (3, .int 0), (2, .int 0), (0, .int 14), (1, .int wh)]) hx hb dX9_names_5 hl (by decide) rfl (fun ls hl => ?_)
  refine lv_iload_n hx hb dX9_names_7 rfl (lv_at hl 3 rfl) ?_
  refine lv_iconst (v := 1) hx hb dX9_names_8 (by decide) ?_
  refine lv_icmp_eq (tgt := 24) hx hb dX9_names_9 (by decide) (fun c_ => absurd c_ (by decide)) (fun _ => ?_)
  refine lv_iload_n hx hb dX9_names_12 rfl (lv_at hl 3 rfl) ?_
  refine lv_bipush (v := 72) hx hb dX9_names_13 (by decide) ?_
  refine lv_icmp_eq (tgt := 24) hx hb dX9_names_15 (by decide) (fun c_ => absurd c_ (by decide)) (fun _ => ?_)
  refine lv_iload_n hx hb dX9_names_18 rfl (lv_at hl 3 rfl) ?_
  refine lv_bipush (v := 73) hx hb dX9_names_19 (by decide) ?_
  refine lv_icmp_ne (tgt := 29) hx hb dX9_names_21 (by decide) (fun _ => ?_) (fun c_ => absurd c_ (by decide))
  refine lv_iload_n hx hb dX9_names_29 rfl (lv_at hl 3 rfl) ?_
  refine lv_iconst (v := 2) hx hb dX9_names_30 (by decide) ?_
  refine lv_icmp_ne (tgt := 39) hx hb dX9_names_31 (by decide) (fun _ => ?_) (fun c_ => absurd c_ (by decide))
  refine lv_iload_n hx hb dX9_names_39 rfl (lv_at hl 3 rfl) ?_
  refine lv_iconst (v := 3) hx hb dX9_names_40 (by decide) ?_
  refine lv_icmp_ne (tgt := 51) hx hb dX9_names_41 (by decide) (fun _ => ?_) (fun c_ => absurd c_ (by decide))
  refine lv_iload_n hx hb dX9_names_51 rfl (lv_at hl 3 rfl) ?_
  refine lv_iconst (v := 4) hx hb dX9_names_52 (by decide) ?_
  refine lv_bipush (v := 8) hx hb dX9_names_53 (by decide) ?_
  refine r_ki hw (r_runS (rest := []) hC hw (c_X9_isIn l _ _ 14 4 8) 3 gX9_names_X9_isIn rfl rfl rfl (by decide +kernel) ⟨Nat.le_of_ble_eq_true rfl, Nat.le_of_ble_eq_true rfl⟩ rfl hl.1 rfl (Nat.le_of_ble_eq_true rfl) dX9_names_55 ⟨Nat.le_of_ble_eq_true rfl, Nat.le_of_ble_eq_true rfl⟩) (fun r_2 u_3 H locs h_1 hw => ?_)
  rw [if_neg (by decide)] at h_1
  subst h_1
  refine lv_if_ne (tgt := 67) hx hb dX9_names_58 (by decide) (fun c_ => absurd (by decide) c_) (fun _ => ?_)
  refine lv_iload_n hx hb dX9_names_61 rfl (lv_at hl 3 rfl) ?_
  refine lv_bipush (v := 25) hx hb dX9_names_62 (by decide) ?_
  refine lv_icmp_ne (tgt := 77) hx hb dX9_names_64 (by decide) (fun _ => ?_) (fun c_ => absurd c_ (by decide))
  refine lv_iload_n hx hb dX9_names_77 rfl (lv_at hl 3 rfl) ?_
  refine lv_bipush (v := 9) hx hb dX9_names_78 (by decide) ?_
  refine lv_bipush (v := 12) hx hb dX9_names_80 (by decide) ?_
  refine r_ki hw (r_runS (rest := []) hC hw (c_X9_isIn l _ _ 14 9 12) 3 gX9_names_X9_isIn rfl rfl rfl (by decide +kernel) ⟨Nat.le_of_ble_eq_true rfl, Nat.le_of_ble_eq_true rfl⟩ rfl hl.1 rfl (Nat.le_of_ble_eq_true rfl) dX9_names_82 ⟨Nat.le_of_ble_eq_true rfl, Nat.le_of_ble_eq_true rfl⟩) (fun r_5 u_6 H locs h_4 hw => ?_)
  rw [if_neg (by decide)] at h_4
  subst h_4
  refine lv_if_eq (tgt := 98) hx hb dX9_names_85 (by decide) (fun _ => ?_) (fun c_ => absurd (by decide) c_)
  refine lv_iload_n hx hb dX9_names_98 rfl (lv_at hl 3 rfl) ?_
  refine lv_bipush (v := 13) hx hb dX9_names_99 (by decide) ?_
  refine lv_bipush (v := 24) hx hb dX9_names_101 (by decide) ?_
  refine r_ki hw (r_runS (rest := []) hC hw (c_X9_isIn l _ _ 14 13 24) 3 gX9_names_X9_isIn rfl rfl rfl (by decide +kernel) ⟨Nat.le_of_ble_eq_true rfl, Nat.le_of_ble_eq_true rfl⟩ rfl hl.1 rfl (Nat.le_of_ble_eq_true rfl) dX9_names_103 ⟨Nat.le_of_ble_eq_true rfl, Nat.le_of_ble_eq_true rfl⟩) (fun r_8 u_9 H locs h_7 hw => ?_)
  rw [if_pos (by decide)] at h_7
  subst h_7
  refine lv_if_ne (tgt := 115) hx hb dX9_names_106 (by decide) (fun _ => ?_) (fun c_ => absurd c_ (by decide))
  refine lv_iload_n hx hb dX9_names_115 rfl (lv_at hl 3 rfl) ?_
  refine lv_bipush (v := 13) hx hb dX9_names_116 (by decide) ?_
  refine lv_icmp_eq (tgt := 127) hx hb dX9_names_118 (by decide) (fun c_ => absurd c_ (by decide)) (fun _ => ?_)
  refine lv_iload_n hx hb dX9_names_121 rfl (lv_at hl 3 rfl) ?_
  refine lv_bipush (v := 17) hx hb dX9_names_122 (by decide) ?_
  refine lv_icmp_ne (tgt := 131) hx hb dX9_names_124 (by decide) (fun _ => ?_) (fun c_ => absurd c_ (by decide))
  refine lv_iload_n hx hb dX9_names_131 rfl (lv_at hl 3 rfl) ?_
  refine lv_bipush (v := 14) hx hb dX9_names_132 (by decide) ?_
  refine lv_icmp_eq (tgt := 149) hx hb dX9_names_134 (by decide) (fun _ => ?_) (fun c_ => absurd (by decide) c_)
  refine lv_iconst (v := 1) hx hb dX9_names_149 (by decide) ?_
  refine lv_goto (tgt := 182) hx hb dX9_names_150 (by decide) ?_
  refine lv_istore_n (lv' := [(2, .int 1), (4, .int 0), (3, .int 0), (0, .int 14), (1, .int wh)]) hx hb dX9_names_182 rfl hl (by decide) rfl (fun ls hl => ?_)
  refine lv_iload_n hx hb dX9_names_183 rfl (lv_at hl 3 rfl) ?_
  refine lv_bipush (v := 13) hx hb dX9_names_184 (by decide) ?_
  refine lv_icmp_ne (tgt := 193) hx hb dX9_names_186 (by decide) (fun _ => ?_) (fun c_ => absurd c_ (by decide))
  refine lv_iload_n hx hb dX9_names_193 rfl (lv_at hl 3 rfl) ?_
  refine lv_bipush (v := 14) hx hb dX9_names_194 (by decide) ?_
  refine lv_bipush (v := 16) hx hb dX9_names_196 (by decide) ?_
  refine r_ki hw (r_runS (rest := []) hC hw (c_X9_isIn l _ _ 14 14 16) 3 gX9_names_X9_isIn rfl rfl rfl (by decide +kernel) ⟨Nat.le_of_ble_eq_true rfl, Nat.le_of_ble_eq_true rfl⟩ rfl hl.1 rfl (Nat.le_of_ble_eq_true rfl) dX9_names_198 ⟨Nat.le_of_ble_eq_true rfl, Nat.le_of_ble_eq_true rfl⟩) (fun r_11 u_12 H locs h_10 hw => ?_)
  rw [if_pos (by decide)] at h_10
  subst h_10
  refine lv_if_eq (tgt := 208) hx hb dX9_names_201 (by decide) (fun c_ => absurd c_ (by decide)) (fun _ => ?_)
  refine lv_iconst (v := 2) hx hb dX9_names_204 (by decide) ?_
  refine lv_goto (tgt := 237) hx hb dX9_names_205 (by decide) ?_
  refine lv_istore_n (lv' := [(3, .int 2), (2, .int 1), (4, .int 0), (0, .int 14), (1, .int wh)]) hx hb dX9_names_237 rfl hl (by decide) rfl (fun ls hl => ?_)
  refine lv_iload_n hx hb dX9_names_238 rfl (lv_at hl 3 rfl) ?_
  refine lv_bipush (v := 23) hx hb dX9_names_239 (by decide) ?_
  refine lv_icmp_ne (tgt := 248) hx hb dX9_names_241 (by decide) (fun _ => ?_) (fun c_ => absurd c_ (by decide))
  refine lv_iload_n hx hb dX9_names_248 rfl (lv_at hl 3 rfl) ?_
  refine lv_bipush (v := 24) hx hb dX9_names_249 (by decide) ?_
  refine lv_icmp_eq (tgt := 260) hx hb dX9_names_251 (by decide) (fun c_ => absurd c_ (by decide)) (fun _ => ?_)
  refine lv_iload_n hx hb dX9_names_254 rfl (lv_at hl 3 rfl) ?_
  refine lv_bipush (v := 26) hx hb dX9_names_255 (by decide) ?_
  refine lv_icmp_ne (tgt := 264) hx hb dX9_names_257 (by decide) (fun _ => ?_) (fun c_ => absurd c_ (by decide))
  refine lv_iconst (v := 0) hx hb dX9_names_264 (by decide) ?_
  refine lv_istore (lv' := [(4, .int 0), (3, .int 2), (2, .int 1), (0, .int 14), (1, .int wh)]) hx hb dX9_names_265 hl (by decide) rfl (fun ls hl => ?_)
  refine lv_goto (tgt := 605) hx hb dX9_names_267 (by decide) ?_
  refine lv_iload_n hx hb dX9_names_605 rfl (lv_at hl 4 rfl) ?_
  refine lv_if_ne (tgt := 613) hx hb dX9_names_606 (by decide) (fun c_13 => ?_) (fun c_13 => ?_)
  · refine lv_iload_n hx hb dX9_names_613 rfl (lv_at hl 4 rfl) ?_
    refine lv_iconst (v := 1) hx hb dX9_names_614 (by decide) ?_
    refine lv_icmp_ne (tgt := 622) hx hb dX9_names_615 (by decide) (fun c_14 => ?_) (fun c_14 => ?_)
    · refine lv_iload hx hb dX9_names_622 (lv_at hl 0 rfl) ?_
      exact r_iret hC hr hlk hw () rfl ((if_neg c_13).trans (if_neg c_14)).symm (Nat.le_of_ble_eq_true rfl) (Nat.le_of_ble_eq_true rfl) dX9_names_624
    · refine lv_iload_n hx hb dX9_names_618 rfl (lv_at hl 1 rfl) ?_
      refine lv_goto (tgt := 624) hx hb dX9_names_619 (by decide) ?_
      exact r_iret hC hr hlk hw () rfl ((if_neg c_13).trans (if_pos c_14)).symm (Nat.le_of_ble_eq_true rfl) (Nat.le_of_ble_eq_true rfl) dX9_names_624
  · refine lv_iload_n hx hb dX9_names_609 rfl (lv_at hl 2 rfl) ?_
    refine lv_goto (tgt := 624) hx hb dX9_names_610 (by decide) ?_
    exact r_iret hC hr hlk hw () rfl (if_pos c_13).symm (Nat.le_of_ble_eq_true rfl) (Nat.le_of_ble_eq_true rfl) dX9_names_624

set_option maxHeartbeats 4000000 in
set_option maxRecDepth 100000 in
theorem c_X9_names_15 (l : Launch) {D : va_G} {q : Nat → ClassId} (w : wT) (sz : Nat) (wh : Int32) : Met l yX9_names wsX9_names (rmz 1 22) (va_Pc [.int 15, .int wh] (rPre D q w sz)) (va_Qi (fun (r : Int32) (u : Unit) => r = if wh = 0 then 3 else if wh = 1 then 2 else 0) (fun (u : Unit) tt => rPo D (rA w sz) w tt) (rA w sz)) 0 0 (rA w sz) := by
  refine r_start (cc := cX9_names) (maxL := 6) (ret := (some .int)) (by decide) rfl (Nat.le_of_ble_eq_true rfl) ?_
  intro p e s m below meth c ls hC hr hlk hnm hsz hw hl
  have hx := hC.1
  have hb := hC.2.1
  have hl : lv_has ls 6 [(0, .int 15), (1, .int wh)] := hl
  refine lv_iconst (v := 0) hx hb dX9_names_0 (by decide) ?_
  refine lv_istore_n (lv' := [(2, .int 0), (0, .int 15), (1, .int wh)]) hx hb dX9_names_1 rfl hl (by decide) rfl (fun ls hl => ?_)
  refine lv_iconst (v := 0) hx hb dX9_names_2 (by decide) ?_
  refine lv_istore_n (lv' := [(3, .int 0), (2, .int 0), (0, .int 15), (1, .int wh)]) hx hb dX9_names_3 rfl hl (by decide) rfl (fun ls hl => ?_)
  refine lv_iconst (v := 0) hx hb dX9_names_4 (by decide) ?_
  refine lv_istore (lv' := [(4, .int 0), (3, .int 0), (2, .int 0), (0, .int 15), (1, .int wh)]) hx hb dX9_names_5 hl (by decide) rfl (fun ls hl => ?_)
  refine lv_iload_n hx hb dX9_names_7 rfl (lv_at hl 3 rfl) ?_
  refine lv_iconst (v := 1) hx hb dX9_names_8 (by decide) ?_
  refine lv_icmp_eq (tgt := 24) hx hb dX9_names_9 (by decide) (fun c_ => absurd c_ (by decide)) (fun _ => ?_)
  refine lv_iload_n hx hb dX9_names_12 rfl (lv_at hl 3 rfl) ?_
  refine lv_bipush (v := 72) hx hb dX9_names_13 (by decide) ?_
  refine lv_icmp_eq (tgt := 24) hx hb dX9_names_15 (by decide) (fun c_ => absurd c_ (by decide)) (fun _ => ?_)
  refine lv_iload_n hx hb dX9_names_18 rfl (lv_at hl 3 rfl) ?_
  refine lv_bipush (v := 73) hx hb dX9_names_19 (by decide) ?_
  refine lv_icmp_ne (tgt := 29) hx hb dX9_names_21 (by decide) (fun _ => ?_) (fun c_ => absurd c_ (by decide))
  refine lv_iload_n hx hb dX9_names_29 rfl (lv_at hl 3 rfl) ?_
  refine lv_iconst (v := 2) hx hb dX9_names_30 (by decide) ?_
  refine lv_icmp_ne (tgt := 39) hx hb dX9_names_31 (by decide) (fun _ => ?_) (fun c_ => absurd c_ (by decide))
  refine lv_iload_n hx hb dX9_names_39 rfl (lv_at hl 3 rfl) ?_
  refine lv_iconst (v := 3) hx hb dX9_names_40 (by decide) ?_
  refine lv_icmp_ne (tgt := 51) hx hb dX9_names_41 (by decide) (fun _ => ?_) (fun c_ => absurd c_ (by decide))
  refine lv_iload_n hx hb dX9_names_51 rfl (lv_at hl 3 rfl) ?_
  refine lv_iconst (v := 4) hx hb dX9_names_52 (by decide) ?_
  refine lv_bipush (v := 8) hx hb dX9_names_53 (by decide) ?_
  refine r_ki hw (r_runS (rest := []) hC hw (c_X9_isIn l _ _ 15 4 8) 3 gX9_names_X9_isIn rfl rfl rfl (by decide +kernel) ⟨Nat.le_of_ble_eq_true rfl, Nat.le_of_ble_eq_true rfl⟩ rfl hl.1 rfl (Nat.le_of_ble_eq_true rfl) dX9_names_55 ⟨Nat.le_of_ble_eq_true rfl, Nat.le_of_ble_eq_true rfl⟩) (fun r_2 u_3 H locs h_1 hw => ?_)
  rw [if_neg (by decide)] at h_1
  subst h_1
  refine lv_if_ne (tgt := 67) hx hb dX9_names_58 (by decide) (fun c_ => absurd (by decide) c_) (fun _ => ?_)
  refine lv_iload_n hx hb dX9_names_61 rfl (lv_at hl 3 rfl) ?_
  refine lv_bipush (v := 25) hx hb dX9_names_62 (by decide) ?_
  refine lv_icmp_ne (tgt := 77) hx hb dX9_names_64 (by decide) (fun _ => ?_) (fun c_ => absurd c_ (by decide))
  refine lv_iload_n hx hb dX9_names_77 rfl (lv_at hl 3 rfl) ?_
  refine lv_bipush (v := 9) hx hb dX9_names_78 (by decide) ?_
  refine lv_bipush (v := 12) hx hb dX9_names_80 (by decide) ?_
  refine r_ki hw (r_runS (rest := []) hC hw (c_X9_isIn l _ _ 15 9 12) 3 gX9_names_X9_isIn rfl rfl rfl (by decide +kernel) ⟨Nat.le_of_ble_eq_true rfl, Nat.le_of_ble_eq_true rfl⟩ rfl hl.1 rfl (Nat.le_of_ble_eq_true rfl) dX9_names_82 ⟨Nat.le_of_ble_eq_true rfl, Nat.le_of_ble_eq_true rfl⟩) (fun r_5 u_6 H locs h_4 hw => ?_)
  rw [if_neg (by decide)] at h_4
  subst h_4
  refine lv_if_eq (tgt := 98) hx hb dX9_names_85 (by decide) (fun _ => ?_) (fun c_ => absurd (by decide) c_)
  refine lv_iload_n hx hb dX9_names_98 rfl (lv_at hl 3 rfl) ?_
  refine lv_bipush (v := 13) hx hb dX9_names_99 (by decide) ?_
  refine lv_bipush (v := 24) hx hb dX9_names_101 (by decide) ?_
  refine r_ki hw (r_runS (rest := []) hC hw (c_X9_isIn l _ _ 15 13 24) 3 gX9_names_X9_isIn rfl rfl rfl (by decide +kernel) ⟨Nat.le_of_ble_eq_true rfl, Nat.le_of_ble_eq_true rfl⟩ rfl hl.1 rfl (Nat.le_of_ble_eq_true rfl) dX9_names_103 ⟨Nat.le_of_ble_eq_true rfl, Nat.le_of_ble_eq_true rfl⟩) (fun r_8 u_9 H locs h_7 hw => ?_)
  rw [if_pos (by decide)] at h_7
  subst h_7
  refine lv_if_ne (tgt := 115) hx hb dX9_names_106 (by decide) (fun _ => ?_) (fun c_ => absurd c_ (by decide))
  refine lv_iload_n hx hb dX9_names_115 rfl (lv_at hl 3 rfl) ?_
  refine lv_bipush (v := 13) hx hb dX9_names_116 (by decide) ?_
  refine lv_icmp_eq (tgt := 127) hx hb dX9_names_118 (by decide) (fun c_ => absurd c_ (by decide)) (fun _ => ?_)
  refine lv_iload_n hx hb dX9_names_121 rfl (lv_at hl 3 rfl) ?_
  refine lv_bipush (v := 17) hx hb dX9_names_122 (by decide) ?_
  refine lv_icmp_ne (tgt := 131) hx hb dX9_names_124 (by decide) (fun _ => ?_) (fun c_ => absurd c_ (by decide))
  refine lv_iload_n hx hb dX9_names_131 rfl (lv_at hl 3 rfl) ?_
  refine lv_bipush (v := 14) hx hb dX9_names_132 (by decide) ?_
  refine lv_icmp_eq (tgt := 149) hx hb dX9_names_134 (by decide) (fun c_ => absurd c_ (by decide)) (fun _ => ?_)
  refine lv_iload_n hx hb dX9_names_137 rfl (lv_at hl 3 rfl) ?_
  refine lv_bipush (v := 18) hx hb dX9_names_138 (by decide) ?_
  refine lv_icmp_eq (tgt := 149) hx hb dX9_names_140 (by decide) (fun c_ => absurd c_ (by decide)) (fun _ => ?_)
  refine lv_iload_n hx hb dX9_names_143 rfl (lv_at hl 3 rfl) ?_
  refine lv_bipush (v := 26) hx hb dX9_names_144 (by decide) ?_
  refine lv_icmp_ne (tgt := 153) hx hb dX9_names_146 (by decide) (fun _ => ?_) (fun c_ => absurd c_ (by decide))
  refine lv_iload_n hx hb dX9_names_153 rfl (lv_at hl 3 rfl) ?_
  refine lv_bipush (v := 15) hx hb dX9_names_154 (by decide) ?_
  refine lv_icmp_eq (tgt := 177) hx hb dX9_names_156 (by decide) (fun _ => ?_) (fun c_ => absurd (by decide) c_)
  refine lv_iconst (v := 3) hx hb dX9_names_177 (by decide) ?_
  refine lv_goto (tgt := 182) hx hb dX9_names_178 (by decide) ?_
  refine lv_istore_n (lv' := [(2, .int 3), (4, .int 0), (3, .int 0), (0, .int 15), (1, .int wh)]) hx hb dX9_names_182 rfl hl (by decide) rfl (fun ls hl => ?_)
  refine lv_iload_n hx hb dX9_names_183 rfl (lv_at hl 3 rfl) ?_
  refine lv_bipush (v := 13) hx hb dX9_names_184 (by decide) ?_
  refine lv_icmp_ne (tgt := 193) hx hb dX9_names_186 (by decide) (fun _ => ?_) (fun c_ => absurd c_ (by decide))
  refine lv_iload_n hx hb dX9_names_193 rfl (lv_at hl 3 rfl) ?_
  refine lv_bipush (v := 14) hx hb dX9_names_194 (by decide) ?_
  refine lv_bipush (v := 16) hx hb dX9_names_196 (by decide) ?_
  refine r_ki hw (r_runS (rest := []) hC hw (c_X9_isIn l _ _ 15 14 16) 3 gX9_names_X9_isIn rfl rfl rfl (by decide +kernel) ⟨Nat.le_of_ble_eq_true rfl, Nat.le_of_ble_eq_true rfl⟩ rfl hl.1 rfl (Nat.le_of_ble_eq_true rfl) dX9_names_198 ⟨Nat.le_of_ble_eq_true rfl, Nat.le_of_ble_eq_true rfl⟩) (fun r_11 u_12 H locs h_10 hw => ?_)
  rw [if_pos (by decide)] at h_10
  subst h_10
  refine lv_if_eq (tgt := 208) hx hb dX9_names_201 (by decide) (fun c_ => absurd c_ (by decide)) (fun _ => ?_)
  refine lv_iconst (v := 2) hx hb dX9_names_204 (by decide) ?_
  refine lv_goto (tgt := 237) hx hb dX9_names_205 (by decide) ?_
  refine lv_istore_n (lv' := [(3, .int 2), (2, .int 3), (4, .int 0), (0, .int 15), (1, .int wh)]) hx hb dX9_names_237 rfl hl (by decide) rfl (fun ls hl => ?_)
  refine lv_iload_n hx hb dX9_names_238 rfl (lv_at hl 3 rfl) ?_
  refine lv_bipush (v := 23) hx hb dX9_names_239 (by decide) ?_
  refine lv_icmp_ne (tgt := 248) hx hb dX9_names_241 (by decide) (fun _ => ?_) (fun c_ => absurd c_ (by decide))
  refine lv_iload_n hx hb dX9_names_248 rfl (lv_at hl 3 rfl) ?_
  refine lv_bipush (v := 24) hx hb dX9_names_249 (by decide) ?_
  refine lv_icmp_eq (tgt := 260) hx hb dX9_names_251 (by decide) (fun c_ => absurd c_ (by decide)) (fun _ => ?_)
  refine lv_iload_n hx hb dX9_names_254 rfl (lv_at hl 3 rfl) ?_
  refine lv_bipush (v := 26) hx hb dX9_names_255 (by decide) ?_
  refine lv_icmp_ne (tgt := 264) hx hb dX9_names_257 (by decide) (fun _ => ?_) (fun c_ => absurd c_ (by decide))
  refine lv_iconst (v := 0) hx hb dX9_names_264 (by decide) ?_
  refine lv_istore (lv' := [(4, .int 0), (3, .int 2), (2, .int 3), (0, .int 15), (1, .int wh)]) hx hb dX9_names_265 hl (by decide) rfl (fun ls hl => ?_)
  refine lv_goto (tgt := 605) hx hb dX9_names_267 (by decide) ?_
  refine lv_iload_n hx hb dX9_names_605 rfl (lv_at hl 4 rfl) ?_
  refine lv_if_ne (tgt := 613) hx hb dX9_names_606 (by decide) (fun c_13 => ?_) (fun c_13 => ?_)
  · refine lv_iload_n hx hb dX9_names_613 rfl (lv_at hl 4 rfl) ?_
    refine lv_iconst (v := 1) hx hb dX9_names_614 (by decide) ?_
    refine lv_icmp_ne (tgt := 622) hx hb dX9_names_615 (by decide) (fun c_14 => ?_) (fun c_14 => ?_)
    · refine lv_iload hx hb dX9_names_622 (lv_at hl 0 rfl) ?_
      exact r_iret hC hr hlk hw () rfl ((if_neg c_13).trans (if_neg c_14)).symm (Nat.le_of_ble_eq_true rfl) (Nat.le_of_ble_eq_true rfl) dX9_names_624
    · refine lv_iload_n hx hb dX9_names_618 rfl (lv_at hl 1 rfl) ?_
      refine lv_goto (tgt := 624) hx hb dX9_names_619 (by decide) ?_
      exact r_iret hC hr hlk hw () rfl ((if_neg c_13).trans (if_pos c_14)).symm (Nat.le_of_ble_eq_true rfl) (Nat.le_of_ble_eq_true rfl) dX9_names_624
  · refine lv_iload_n hx hb dX9_names_609 rfl (lv_at hl 2 rfl) ?_
    refine lv_goto (tgt := 624) hx hb dX9_names_610 (by decide) ?_
    exact r_iret hC hr hlk hw () rfl (if_pos c_13).symm (Nat.le_of_ble_eq_true rfl) (Nat.le_of_ble_eq_true rfl) dX9_names_624

set_option maxHeartbeats 4000000 in
set_option maxRecDepth 100000 in
theorem c_X9_names_16 (l : Launch) {D : va_G} {q : Nat → ClassId} (w : wT) (sz : Nat) (wh : Int32) : Met l yX9_names wsX9_names (rmz 1 22) (va_Pc [.int 16, .int wh] (rPre D q w sz)) (va_Qi (fun (r : Int32) (u : Unit) => r = if wh = 0 then 4 else if wh = 1 then 2 else 0) (fun (u : Unit) tt => rPo D (rA w sz) w tt) (rA w sz)) 0 0 (rA w sz) := by
  refine r_start (cc := cX9_names) (maxL := 6) (ret := (some .int)) (by decide) rfl (Nat.le_of_ble_eq_true rfl) ?_
  intro p e s m below meth c ls hC hr hlk hnm hsz hw hl
  have hx := hC.1
  have hb := hC.2.1
  have hl : lv_has ls 6 [(0, .int 16), (1, .int wh)] := hl
  refine lv_iconst (v := 0) hx hb dX9_names_0 (by decide) ?_
  refine lv_istore_n (lv' := [(2, .int 0), (0, .int 16), (1, .int wh)]) hx hb dX9_names_1 rfl hl (by decide) rfl (fun ls hl => ?_)
  refine lv_iconst (v := 0) hx hb dX9_names_2 (by decide) ?_
  refine lv_istore_n (lv' := [(3, .int 0), (2, .int 0), (0, .int 16), (1, .int wh)]) hx hb dX9_names_3 rfl hl (by decide) rfl (fun ls hl => ?_)
  refine lv_iconst (v := 0) hx hb dX9_names_4 (by decide) ?_
  refine lv_istore (lv' := [(4, .int 0), (3, .int 0), (2, .int 0), (0, .int 16), (1, .int wh)]) hx hb dX9_names_5 hl (by decide) rfl (fun ls hl => ?_)
  refine lv_iload_n hx hb dX9_names_7 rfl (lv_at hl 3 rfl) ?_
  refine lv_iconst (v := 1) hx hb dX9_names_8 (by decide) ?_
  refine lv_icmp_eq (tgt := 24) hx hb dX9_names_9 (by decide) (fun c_ => absurd c_ (by decide)) (fun _ => ?_)
  refine lv_iload_n hx hb dX9_names_12 rfl (lv_at hl 3 rfl) ?_
  refine lv_bipush (v := 72) hx hb dX9_names_13 (by decide) ?_
  refine lv_icmp_eq (tgt := 24) hx hb dX9_names_15 (by decide) (fun c_ => absurd c_ (by decide)) (fun _ => ?_)
  refine lv_iload_n hx hb dX9_names_18 rfl (lv_at hl 3 rfl) ?_
  refine lv_bipush (v := 73) hx hb dX9_names_19 (by decide) ?_
  refine lv_icmp_ne (tgt := 29) hx hb dX9_names_21 (by decide) (fun _ => ?_) (fun c_ => absurd c_ (by decide))
  refine lv_iload_n hx hb dX9_names_29 rfl (lv_at hl 3 rfl) ?_
  refine lv_iconst (v := 2) hx hb dX9_names_30 (by decide) ?_
  refine lv_icmp_ne (tgt := 39) hx hb dX9_names_31 (by decide) (fun _ => ?_) (fun c_ => absurd c_ (by decide))
  refine lv_iload_n hx hb dX9_names_39 rfl (lv_at hl 3 rfl) ?_
  refine lv_iconst (v := 3) hx hb dX9_names_40 (by decide) ?_
  refine lv_icmp_ne (tgt := 51) hx hb dX9_names_41 (by decide) (fun _ => ?_) (fun c_ => absurd c_ (by decide))
  refine lv_iload_n hx hb dX9_names_51 rfl (lv_at hl 3 rfl) ?_
  refine lv_iconst (v := 4) hx hb dX9_names_52 (by decide) ?_
  refine lv_bipush (v := 8) hx hb dX9_names_53 (by decide) ?_
  refine r_ki hw (r_runS (rest := []) hC hw (c_X9_isIn l _ _ 16 4 8) 3 gX9_names_X9_isIn rfl rfl rfl (by decide +kernel) ⟨Nat.le_of_ble_eq_true rfl, Nat.le_of_ble_eq_true rfl⟩ rfl hl.1 rfl (Nat.le_of_ble_eq_true rfl) dX9_names_55 ⟨Nat.le_of_ble_eq_true rfl, Nat.le_of_ble_eq_true rfl⟩) (fun r_2 u_3 H locs h_1 hw => ?_)
  rw [if_neg (by decide)] at h_1
  subst h_1
  refine lv_if_ne (tgt := 67) hx hb dX9_names_58 (by decide) (fun c_ => absurd (by decide) c_) (fun _ => ?_)
  refine lv_iload_n hx hb dX9_names_61 rfl (lv_at hl 3 rfl) ?_
  refine lv_bipush (v := 25) hx hb dX9_names_62 (by decide) ?_
  refine lv_icmp_ne (tgt := 77) hx hb dX9_names_64 (by decide) (fun _ => ?_) (fun c_ => absurd c_ (by decide))
  refine lv_iload_n hx hb dX9_names_77 rfl (lv_at hl 3 rfl) ?_
  refine lv_bipush (v := 9) hx hb dX9_names_78 (by decide) ?_
  refine lv_bipush (v := 12) hx hb dX9_names_80 (by decide) ?_
  refine r_ki hw (r_runS (rest := []) hC hw (c_X9_isIn l _ _ 16 9 12) 3 gX9_names_X9_isIn rfl rfl rfl (by decide +kernel) ⟨Nat.le_of_ble_eq_true rfl, Nat.le_of_ble_eq_true rfl⟩ rfl hl.1 rfl (Nat.le_of_ble_eq_true rfl) dX9_names_82 ⟨Nat.le_of_ble_eq_true rfl, Nat.le_of_ble_eq_true rfl⟩) (fun r_5 u_6 H locs h_4 hw => ?_)
  rw [if_neg (by decide)] at h_4
  subst h_4
  refine lv_if_eq (tgt := 98) hx hb dX9_names_85 (by decide) (fun _ => ?_) (fun c_ => absurd (by decide) c_)
  refine lv_iload_n hx hb dX9_names_98 rfl (lv_at hl 3 rfl) ?_
  refine lv_bipush (v := 13) hx hb dX9_names_99 (by decide) ?_
  refine lv_bipush (v := 24) hx hb dX9_names_101 (by decide) ?_
  refine r_ki hw (r_runS (rest := []) hC hw (c_X9_isIn l _ _ 16 13 24) 3 gX9_names_X9_isIn rfl rfl rfl (by decide +kernel) ⟨Nat.le_of_ble_eq_true rfl, Nat.le_of_ble_eq_true rfl⟩ rfl hl.1 rfl (Nat.le_of_ble_eq_true rfl) dX9_names_103 ⟨Nat.le_of_ble_eq_true rfl, Nat.le_of_ble_eq_true rfl⟩) (fun r_8 u_9 H locs h_7 hw => ?_)
  rw [if_pos (by decide)] at h_7
  subst h_7
  refine lv_if_ne (tgt := 115) hx hb dX9_names_106 (by decide) (fun _ => ?_) (fun c_ => absurd c_ (by decide))
  refine lv_iload_n hx hb dX9_names_115 rfl (lv_at hl 3 rfl) ?_
  refine lv_bipush (v := 13) hx hb dX9_names_116 (by decide) ?_
  refine lv_icmp_eq (tgt := 127) hx hb dX9_names_118 (by decide) (fun c_ => absurd c_ (by decide)) (fun _ => ?_)
  refine lv_iload_n hx hb dX9_names_121 rfl (lv_at hl 3 rfl) ?_
  refine lv_bipush (v := 17) hx hb dX9_names_122 (by decide) ?_
  refine lv_icmp_ne (tgt := 131) hx hb dX9_names_124 (by decide) (fun _ => ?_) (fun c_ => absurd c_ (by decide))
  refine lv_iload_n hx hb dX9_names_131 rfl (lv_at hl 3 rfl) ?_
  refine lv_bipush (v := 14) hx hb dX9_names_132 (by decide) ?_
  refine lv_icmp_eq (tgt := 149) hx hb dX9_names_134 (by decide) (fun c_ => absurd c_ (by decide)) (fun _ => ?_)
  refine lv_iload_n hx hb dX9_names_137 rfl (lv_at hl 3 rfl) ?_
  refine lv_bipush (v := 18) hx hb dX9_names_138 (by decide) ?_
  refine lv_icmp_eq (tgt := 149) hx hb dX9_names_140 (by decide) (fun c_ => absurd c_ (by decide)) (fun _ => ?_)
  refine lv_iload_n hx hb dX9_names_143 rfl (lv_at hl 3 rfl) ?_
  refine lv_bipush (v := 26) hx hb dX9_names_144 (by decide) ?_
  refine lv_icmp_ne (tgt := 153) hx hb dX9_names_146 (by decide) (fun _ => ?_) (fun c_ => absurd c_ (by decide))
  refine lv_iload_n hx hb dX9_names_153 rfl (lv_at hl 3 rfl) ?_
  refine lv_bipush (v := 15) hx hb dX9_names_154 (by decide) ?_
  refine lv_icmp_eq (tgt := 177) hx hb dX9_names_156 (by decide) (fun c_ => absurd c_ (by decide)) (fun _ => ?_)
  refine lv_iload_n hx hb dX9_names_159 rfl (lv_at hl 3 rfl) ?_
  refine lv_bipush (v := 20) hx hb dX9_names_160 (by decide) ?_
  refine lv_icmp_eq (tgt := 177) hx hb dX9_names_162 (by decide) (fun c_ => absurd c_ (by decide)) (fun _ => ?_)
  refine lv_iload_n hx hb dX9_names_165 rfl (lv_at hl 3 rfl) ?_
  refine lv_bipush (v := 21) hx hb dX9_names_166 (by decide) ?_
  refine lv_icmp_eq (tgt := 177) hx hb dX9_names_168 (by decide) (fun c_ => absurd c_ (by decide)) (fun _ => ?_)
  refine lv_iload_n hx hb dX9_names_171 rfl (lv_at hl 3 rfl) ?_
  refine lv_bipush (v := 23) hx hb dX9_names_172 (by decide) ?_
  refine lv_icmp_ne (tgt := 181) hx hb dX9_names_174 (by decide) (fun _ => ?_) (fun c_ => absurd c_ (by decide))
  refine lv_iconst (v := 4) hx hb dX9_names_181 (by decide) ?_
  refine lv_istore_n (lv' := [(2, .int 4), (4, .int 0), (3, .int 0), (0, .int 16), (1, .int wh)]) hx hb dX9_names_182 rfl hl (by decide) rfl (fun ls hl => ?_)
  refine lv_iload_n hx hb dX9_names_183 rfl (lv_at hl 3 rfl) ?_
  refine lv_bipush (v := 13) hx hb dX9_names_184 (by decide) ?_
  refine lv_icmp_ne (tgt := 193) hx hb dX9_names_186 (by decide) (fun _ => ?_) (fun c_ => absurd c_ (by decide))
  refine lv_iload_n hx hb dX9_names_193 rfl (lv_at hl 3 rfl) ?_
  refine lv_bipush (v := 14) hx hb dX9_names_194 (by decide) ?_
  refine lv_bipush (v := 16) hx hb dX9_names_196 (by decide) ?_
  refine r_ki hw (r_runS (rest := []) hC hw (c_X9_isIn l _ _ 16 14 16) 3 gX9_names_X9_isIn rfl rfl rfl (by decide +kernel) ⟨Nat.le_of_ble_eq_true rfl, Nat.le_of_ble_eq_true rfl⟩ rfl hl.1 rfl (Nat.le_of_ble_eq_true rfl) dX9_names_198 ⟨Nat.le_of_ble_eq_true rfl, Nat.le_of_ble_eq_true rfl⟩) (fun r_11 u_12 H locs h_10 hw => ?_)
  rw [if_pos (by decide)] at h_10
  subst h_10
  refine lv_if_eq (tgt := 208) hx hb dX9_names_201 (by decide) (fun c_ => absurd c_ (by decide)) (fun _ => ?_)
  refine lv_iconst (v := 2) hx hb dX9_names_204 (by decide) ?_
  refine lv_goto (tgt := 237) hx hb dX9_names_205 (by decide) ?_
  refine lv_istore_n (lv' := [(3, .int 2), (2, .int 4), (4, .int 0), (0, .int 16), (1, .int wh)]) hx hb dX9_names_237 rfl hl (by decide) rfl (fun ls hl => ?_)
  refine lv_iload_n hx hb dX9_names_238 rfl (lv_at hl 3 rfl) ?_
  refine lv_bipush (v := 23) hx hb dX9_names_239 (by decide) ?_
  refine lv_icmp_ne (tgt := 248) hx hb dX9_names_241 (by decide) (fun _ => ?_) (fun c_ => absurd c_ (by decide))
  refine lv_iload_n hx hb dX9_names_248 rfl (lv_at hl 3 rfl) ?_
  refine lv_bipush (v := 24) hx hb dX9_names_249 (by decide) ?_
  refine lv_icmp_eq (tgt := 260) hx hb dX9_names_251 (by decide) (fun c_ => absurd c_ (by decide)) (fun _ => ?_)
  refine lv_iload_n hx hb dX9_names_254 rfl (lv_at hl 3 rfl) ?_
  refine lv_bipush (v := 26) hx hb dX9_names_255 (by decide) ?_
  refine lv_icmp_ne (tgt := 264) hx hb dX9_names_257 (by decide) (fun _ => ?_) (fun c_ => absurd c_ (by decide))
  refine lv_iconst (v := 0) hx hb dX9_names_264 (by decide) ?_
  refine lv_istore (lv' := [(4, .int 0), (3, .int 2), (2, .int 4), (0, .int 16), (1, .int wh)]) hx hb dX9_names_265 hl (by decide) rfl (fun ls hl => ?_)
  refine lv_goto (tgt := 605) hx hb dX9_names_267 (by decide) ?_
  refine lv_iload_n hx hb dX9_names_605 rfl (lv_at hl 4 rfl) ?_
  refine lv_if_ne (tgt := 613) hx hb dX9_names_606 (by decide) (fun c_13 => ?_) (fun c_13 => ?_)
  · refine lv_iload_n hx hb dX9_names_613 rfl (lv_at hl 4 rfl) ?_
    refine lv_iconst (v := 1) hx hb dX9_names_614 (by decide) ?_
    refine lv_icmp_ne (tgt := 622) hx hb dX9_names_615 (by decide) (fun c_14 => ?_) (fun c_14 => ?_)
    · refine lv_iload hx hb dX9_names_622 (lv_at hl 0 rfl) ?_
      exact r_iret hC hr hlk hw () rfl ((if_neg c_13).trans (if_neg c_14)).symm (Nat.le_of_ble_eq_true rfl) (Nat.le_of_ble_eq_true rfl) dX9_names_624
    · refine lv_iload_n hx hb dX9_names_618 rfl (lv_at hl 1 rfl) ?_
      refine lv_goto (tgt := 624) hx hb dX9_names_619 (by decide) ?_
      exact r_iret hC hr hlk hw () rfl ((if_neg c_13).trans (if_pos c_14)).symm (Nat.le_of_ble_eq_true rfl) (Nat.le_of_ble_eq_true rfl) dX9_names_624
  · refine lv_iload_n hx hb dX9_names_609 rfl (lv_at hl 2 rfl) ?_
    refine lv_goto (tgt := 624) hx hb dX9_names_610 (by decide) ?_
    exact r_iret hC hr hlk hw () rfl (if_pos c_13).symm (Nat.le_of_ble_eq_true rfl) (Nat.le_of_ble_eq_true rfl) dX9_names_624

set_option maxHeartbeats 4000000 in
set_option maxRecDepth 100000 in
theorem c_X9_names_17 (l : Launch) {D : va_G} {q : Nat → ClassId} (w : wT) (sz : Nat) (wh : Int32) : Met l yX9_names wsX9_names (rmz 1 22) (va_Pc [.int 17, .int wh] (rPre D q w sz)) (va_Qi (fun (r : Int32) (u : Unit) => r = if wh = 0 then 2 else if wh = 1 then 3 else 0) (fun (u : Unit) tt => rPo D (rA w sz) w tt) (rA w sz)) 0 0 (rA w sz) := by
  refine r_start (cc := cX9_names) (maxL := 6) (ret := (some .int)) (by decide) rfl (Nat.le_of_ble_eq_true rfl) ?_
  intro p e s m below meth c ls hC hr hlk hnm hsz hw hl
  have hx := hC.1
  have hb := hC.2.1
  have hl : lv_has ls 6 [(0, .int 17), (1, .int wh)] := hl
  refine lv_iconst (v := 0) hx hb dX9_names_0 (by decide) ?_
  refine lv_istore_n (lv' := [(2, .int 0), (0, .int 17), (1, .int wh)]) hx hb dX9_names_1 rfl hl (by decide) rfl (fun ls hl => ?_)
  refine lv_iconst (v := 0) hx hb dX9_names_2 (by decide) ?_
  refine lv_istore_n (lv' := [(3, .int 0), (2, .int 0), (0, .int 17), (1, .int wh)]) hx hb dX9_names_3 rfl hl (by decide) rfl (fun ls hl => ?_)
  refine lv_iconst (v := 0) hx hb dX9_names_4 (by decide) ?_
  refine lv_istore (lv' := [(4, .int 0), (3, .int 0), (2, .int 0), (0, .int 17), (1, .int wh)]) hx hb dX9_names_5 hl (by decide) rfl (fun ls hl => ?_)
  refine lv_iload_n hx hb dX9_names_7 rfl (lv_at hl 3 rfl) ?_
  refine lv_iconst (v := 1) hx hb dX9_names_8 (by decide) ?_
  refine lv_icmp_eq (tgt := 24) hx hb dX9_names_9 (by decide) (fun c_ => absurd c_ (by decide)) (fun _ => ?_)
  refine lv_iload_n hx hb dX9_names_12 rfl (lv_at hl 3 rfl) ?_
  refine lv_bipush (v := 72) hx hb dX9_names_13 (by decide) ?_
  refine lv_icmp_eq (tgt := 24) hx hb dX9_names_15 (by decide) (fun c_ => absurd c_ (by decide)) (fun _ => ?_)
  refine lv_iload_n hx hb dX9_names_18 rfl (lv_at hl 3 rfl) ?_
  refine lv_bipush (v := 73) hx hb dX9_names_19 (by decide) ?_
  refine lv_icmp_ne (tgt := 29) hx hb dX9_names_21 (by decide) (fun _ => ?_) (fun c_ => absurd c_ (by decide))
  refine lv_iload_n hx hb dX9_names_29 rfl (lv_at hl 3 rfl) ?_
  refine lv_iconst (v := 2) hx hb dX9_names_30 (by decide) ?_
  refine lv_icmp_ne (tgt := 39) hx hb dX9_names_31 (by decide) (fun _ => ?_) (fun c_ => absurd c_ (by decide))
  refine lv_iload_n hx hb dX9_names_39 rfl (lv_at hl 3 rfl) ?_
  refine lv_iconst (v := 3) hx hb dX9_names_40 (by decide) ?_
  refine lv_icmp_ne (tgt := 51) hx hb dX9_names_41 (by decide) (fun _ => ?_) (fun c_ => absurd c_ (by decide))
  refine lv_iload_n hx hb dX9_names_51 rfl (lv_at hl 3 rfl) ?_
  refine lv_iconst (v := 4) hx hb dX9_names_52 (by decide) ?_
  refine lv_bipush (v := 8) hx hb dX9_names_53 (by decide) ?_
  refine r_ki hw (r_runS (rest := []) hC hw (c_X9_isIn l _ _ 17 4 8) 3 gX9_names_X9_isIn rfl rfl rfl (by decide +kernel) ⟨Nat.le_of_ble_eq_true rfl, Nat.le_of_ble_eq_true rfl⟩ rfl hl.1 rfl (Nat.le_of_ble_eq_true rfl) dX9_names_55 ⟨Nat.le_of_ble_eq_true rfl, Nat.le_of_ble_eq_true rfl⟩) (fun r_2 u_3 H locs h_1 hw => ?_)
  rw [if_neg (by decide)] at h_1
  subst h_1
  refine lv_if_ne (tgt := 67) hx hb dX9_names_58 (by decide) (fun c_ => absurd (by decide) c_) (fun _ => ?_)
  refine lv_iload_n hx hb dX9_names_61 rfl (lv_at hl 3 rfl) ?_
  refine lv_bipush (v := 25) hx hb dX9_names_62 (by decide) ?_
  refine lv_icmp_ne (tgt := 77) hx hb dX9_names_64 (by decide) (fun _ => ?_) (fun c_ => absurd c_ (by decide))
  refine lv_iload_n hx hb dX9_names_77 rfl (lv_at hl 3 rfl) ?_
  refine lv_bipush (v := 9) hx hb dX9_names_78 (by decide) ?_
  refine lv_bipush (v := 12) hx hb dX9_names_80 (by decide) ?_
  refine r_ki hw (r_runS (rest := []) hC hw (c_X9_isIn l _ _ 17 9 12) 3 gX9_names_X9_isIn rfl rfl rfl (by decide +kernel) ⟨Nat.le_of_ble_eq_true rfl, Nat.le_of_ble_eq_true rfl⟩ rfl hl.1 rfl (Nat.le_of_ble_eq_true rfl) dX9_names_82 ⟨Nat.le_of_ble_eq_true rfl, Nat.le_of_ble_eq_true rfl⟩) (fun r_5 u_6 H locs h_4 hw => ?_)
  rw [if_neg (by decide)] at h_4
  subst h_4
  refine lv_if_eq (tgt := 98) hx hb dX9_names_85 (by decide) (fun _ => ?_) (fun c_ => absurd (by decide) c_)
  refine lv_iload_n hx hb dX9_names_98 rfl (lv_at hl 3 rfl) ?_
  refine lv_bipush (v := 13) hx hb dX9_names_99 (by decide) ?_
  refine lv_bipush (v := 24) hx hb dX9_names_101 (by decide) ?_
  refine r_ki hw (r_runS (rest := []) hC hw (c_X9_isIn l _ _ 17 13 24) 3 gX9_names_X9_isIn rfl rfl rfl (by decide +kernel) ⟨Nat.le_of_ble_eq_true rfl, Nat.le_of_ble_eq_true rfl⟩ rfl hl.1 rfl (Nat.le_of_ble_eq_true rfl) dX9_names_103 ⟨Nat.le_of_ble_eq_true rfl, Nat.le_of_ble_eq_true rfl⟩) (fun r_8 u_9 H locs h_7 hw => ?_)
  rw [if_pos (by decide)] at h_7
  subst h_7
  refine lv_if_ne (tgt := 115) hx hb dX9_names_106 (by decide) (fun _ => ?_) (fun c_ => absurd c_ (by decide))
  refine lv_iload_n hx hb dX9_names_115 rfl (lv_at hl 3 rfl) ?_
  refine lv_bipush (v := 13) hx hb dX9_names_116 (by decide) ?_
  refine lv_icmp_eq (tgt := 127) hx hb dX9_names_118 (by decide) (fun c_ => absurd c_ (by decide)) (fun _ => ?_)
  refine lv_iload_n hx hb dX9_names_121 rfl (lv_at hl 3 rfl) ?_
  refine lv_bipush (v := 17) hx hb dX9_names_122 (by decide) ?_
  refine lv_icmp_ne (tgt := 131) hx hb dX9_names_124 (by decide) (fun c_ => absurd (by decide) c_) (fun _ => ?_)
  refine lv_iconst (v := 2) hx hb dX9_names_127 (by decide) ?_
  refine lv_goto (tgt := 182) hx hb dX9_names_128 (by decide) ?_
  refine lv_istore_n (lv' := [(2, .int 2), (4, .int 0), (3, .int 0), (0, .int 17), (1, .int wh)]) hx hb dX9_names_182 rfl hl (by decide) rfl (fun ls hl => ?_)
  refine lv_iload_n hx hb dX9_names_183 rfl (lv_at hl 3 rfl) ?_
  refine lv_bipush (v := 13) hx hb dX9_names_184 (by decide) ?_
  refine lv_icmp_ne (tgt := 193) hx hb dX9_names_186 (by decide) (fun _ => ?_) (fun c_ => absurd c_ (by decide))
  refine lv_iload_n hx hb dX9_names_193 rfl (lv_at hl 3 rfl) ?_
  refine lv_bipush (v := 14) hx hb dX9_names_194 (by decide) ?_
  refine lv_bipush (v := 16) hx hb dX9_names_196 (by decide) ?_
  refine r_ki hw (r_runS (rest := []) hC hw (c_X9_isIn l _ _ 17 14 16) 3 gX9_names_X9_isIn rfl rfl rfl (by decide +kernel) ⟨Nat.le_of_ble_eq_true rfl, Nat.le_of_ble_eq_true rfl⟩ rfl hl.1 rfl (Nat.le_of_ble_eq_true rfl) dX9_names_198 ⟨Nat.le_of_ble_eq_true rfl, Nat.le_of_ble_eq_true rfl⟩) (fun r_11 u_12 H locs h_10 hw => ?_)
  rw [if_neg (by decide)] at h_10
  subst h_10
  refine lv_if_eq (tgt := 208) hx hb dX9_names_201 (by decide) (fun _ => ?_) (fun c_ => absurd (by decide) c_)
  refine lv_iload_n hx hb dX9_names_208 rfl (lv_at hl 3 rfl) ?_
  refine lv_bipush (v := 17) hx hb dX9_names_209 (by decide) ?_
  refine lv_icmp_eq (tgt := 232) hx hb dX9_names_211 (by decide) (fun _ => ?_) (fun c_ => absurd (by decide) c_)
  refine lv_iconst (v := 3) hx hb dX9_names_232 (by decide) ?_
  refine lv_goto (tgt := 237) hx hb dX9_names_233 (by decide) ?_
  refine lv_istore_n (lv' := [(3, .int 3), (2, .int 2), (4, .int 0), (0, .int 17), (1, .int wh)]) hx hb dX9_names_237 rfl hl (by decide) rfl (fun ls hl => ?_)
  refine lv_iload_n hx hb dX9_names_238 rfl (lv_at hl 3 rfl) ?_
  refine lv_bipush (v := 23) hx hb dX9_names_239 (by decide) ?_
  refine lv_icmp_ne (tgt := 248) hx hb dX9_names_241 (by decide) (fun _ => ?_) (fun c_ => absurd c_ (by decide))
  refine lv_iload_n hx hb dX9_names_248 rfl (lv_at hl 3 rfl) ?_
  refine lv_bipush (v := 24) hx hb dX9_names_249 (by decide) ?_
  refine lv_icmp_eq (tgt := 260) hx hb dX9_names_251 (by decide) (fun c_ => absurd c_ (by decide)) (fun _ => ?_)
  refine lv_iload_n hx hb dX9_names_254 rfl (lv_at hl 3 rfl) ?_
  refine lv_bipush (v := 26) hx hb dX9_names_255 (by decide) ?_
  refine lv_icmp_ne (tgt := 264) hx hb dX9_names_257 (by decide) (fun _ => ?_) (fun c_ => absurd c_ (by decide))
  refine lv_iconst (v := 0) hx hb dX9_names_264 (by decide) ?_
  refine lv_istore (lv' := [(4, .int 0), (3, .int 3), (2, .int 2), (0, .int 17), (1, .int wh)]) hx hb dX9_names_265 hl (by decide) rfl (fun ls hl => ?_)
  refine lv_goto (tgt := 605) hx hb dX9_names_267 (by decide) ?_
  refine lv_iload_n hx hb dX9_names_605 rfl (lv_at hl 4 rfl) ?_
  refine lv_if_ne (tgt := 613) hx hb dX9_names_606 (by decide) (fun c_13 => ?_) (fun c_13 => ?_)
  · refine lv_iload_n hx hb dX9_names_613 rfl (lv_at hl 4 rfl) ?_
    refine lv_iconst (v := 1) hx hb dX9_names_614 (by decide) ?_
    refine lv_icmp_ne (tgt := 622) hx hb dX9_names_615 (by decide) (fun c_14 => ?_) (fun c_14 => ?_)
    · refine lv_iload hx hb dX9_names_622 (lv_at hl 0 rfl) ?_
      exact r_iret hC hr hlk hw () rfl ((if_neg c_13).trans (if_neg c_14)).symm (Nat.le_of_ble_eq_true rfl) (Nat.le_of_ble_eq_true rfl) dX9_names_624
    · refine lv_iload_n hx hb dX9_names_618 rfl (lv_at hl 1 rfl) ?_
      refine lv_goto (tgt := 624) hx hb dX9_names_619 (by decide) ?_
      exact r_iret hC hr hlk hw () rfl ((if_neg c_13).trans (if_pos c_14)).symm (Nat.le_of_ble_eq_true rfl) (Nat.le_of_ble_eq_true rfl) dX9_names_624
  · refine lv_iload_n hx hb dX9_names_609 rfl (lv_at hl 2 rfl) ?_
    refine lv_goto (tgt := 624) hx hb dX9_names_610 (by decide) ?_
    exact r_iret hC hr hlk hw () rfl (if_pos c_13).symm (Nat.le_of_ble_eq_true rfl) (Nat.le_of_ble_eq_true rfl) dX9_names_624

set_option maxHeartbeats 4000000 in
set_option maxRecDepth 100000 in
theorem c_X9_names_18 (l : Launch) {D : va_G} {q : Nat → ClassId} (w : wT) (sz : Nat) (wh : Int32) : Met l yX9_names wsX9_names (rmz 1 22) (va_Pc [.int 18, .int wh] (rPre D q w sz)) (va_Qi (fun (r : Int32) (u : Unit) => r = if wh = 0 then 1 else if wh = 1 then 4 else 0) (fun (u : Unit) tt => rPo D (rA w sz) w tt) (rA w sz)) 0 0 (rA w sz) := by
  refine r_start (cc := cX9_names) (maxL := 6) (ret := (some .int)) (by decide) rfl (Nat.le_of_ble_eq_true rfl) ?_
  intro p e s m below meth c ls hC hr hlk hnm hsz hw hl
  have hx := hC.1
  have hb := hC.2.1
  have hl : lv_has ls 6 [(0, .int 18), (1, .int wh)] := hl
  refine lv_iconst (v := 0) hx hb dX9_names_0 (by decide) ?_
  refine lv_istore_n (lv' := [(2, .int 0), (0, .int 18), (1, .int wh)]) hx hb dX9_names_1 rfl hl (by decide) rfl (fun ls hl => ?_)
  refine lv_iconst (v := 0) hx hb dX9_names_2 (by decide) ?_
  refine lv_istore_n (lv' := [(3, .int 0), (2, .int 0), (0, .int 18), (1, .int wh)]) hx hb dX9_names_3 rfl hl (by decide) rfl (fun ls hl => ?_)
  refine lv_iconst (v := 0) hx hb dX9_names_4 (by decide) ?_
  refine lv_istore (lv' := [(4, .int 0), (3, .int 0), (2, .int 0), (0, .int 18), (1, .int wh)]) hx hb dX9_names_5 hl (by decide) rfl (fun ls hl => ?_)
  refine lv_iload_n hx hb dX9_names_7 rfl (lv_at hl 3 rfl) ?_
  refine lv_iconst (v := 1) hx hb dX9_names_8 (by decide) ?_
  refine lv_icmp_eq (tgt := 24) hx hb dX9_names_9 (by decide) (fun c_ => absurd c_ (by decide)) (fun _ => ?_)
  refine lv_iload_n hx hb dX9_names_12 rfl (lv_at hl 3 rfl) ?_
  refine lv_bipush (v := 72) hx hb dX9_names_13 (by decide) ?_
  refine lv_icmp_eq (tgt := 24) hx hb dX9_names_15 (by decide) (fun c_ => absurd c_ (by decide)) (fun _ => ?_)
  refine lv_iload_n hx hb dX9_names_18 rfl (lv_at hl 3 rfl) ?_
  refine lv_bipush (v := 73) hx hb dX9_names_19 (by decide) ?_
  refine lv_icmp_ne (tgt := 29) hx hb dX9_names_21 (by decide) (fun _ => ?_) (fun c_ => absurd c_ (by decide))
  refine lv_iload_n hx hb dX9_names_29 rfl (lv_at hl 3 rfl) ?_
  refine lv_iconst (v := 2) hx hb dX9_names_30 (by decide) ?_
  refine lv_icmp_ne (tgt := 39) hx hb dX9_names_31 (by decide) (fun _ => ?_) (fun c_ => absurd c_ (by decide))
  refine lv_iload_n hx hb dX9_names_39 rfl (lv_at hl 3 rfl) ?_
  refine lv_iconst (v := 3) hx hb dX9_names_40 (by decide) ?_
  refine lv_icmp_ne (tgt := 51) hx hb dX9_names_41 (by decide) (fun _ => ?_) (fun c_ => absurd c_ (by decide))
  refine lv_iload_n hx hb dX9_names_51 rfl (lv_at hl 3 rfl) ?_
  refine lv_iconst (v := 4) hx hb dX9_names_52 (by decide) ?_
  refine lv_bipush (v := 8) hx hb dX9_names_53 (by decide) ?_
  refine r_ki hw (r_runS (rest := []) hC hw (c_X9_isIn l _ _ 18 4 8) 3 gX9_names_X9_isIn rfl rfl rfl (by decide +kernel) ⟨Nat.le_of_ble_eq_true rfl, Nat.le_of_ble_eq_true rfl⟩ rfl hl.1 rfl (Nat.le_of_ble_eq_true rfl) dX9_names_55 ⟨Nat.le_of_ble_eq_true rfl, Nat.le_of_ble_eq_true rfl⟩) (fun r_2 u_3 H locs h_1 hw => ?_)
  rw [if_neg (by decide)] at h_1
  subst h_1
  refine lv_if_ne (tgt := 67) hx hb dX9_names_58 (by decide) (fun c_ => absurd (by decide) c_) (fun _ => ?_)
  refine lv_iload_n hx hb dX9_names_61 rfl (lv_at hl 3 rfl) ?_
  refine lv_bipush (v := 25) hx hb dX9_names_62 (by decide) ?_
  refine lv_icmp_ne (tgt := 77) hx hb dX9_names_64 (by decide) (fun _ => ?_) (fun c_ => absurd c_ (by decide))
  refine lv_iload_n hx hb dX9_names_77 rfl (lv_at hl 3 rfl) ?_
  refine lv_bipush (v := 9) hx hb dX9_names_78 (by decide) ?_
  refine lv_bipush (v := 12) hx hb dX9_names_80 (by decide) ?_
  refine r_ki hw (r_runS (rest := []) hC hw (c_X9_isIn l _ _ 18 9 12) 3 gX9_names_X9_isIn rfl rfl rfl (by decide +kernel) ⟨Nat.le_of_ble_eq_true rfl, Nat.le_of_ble_eq_true rfl⟩ rfl hl.1 rfl (Nat.le_of_ble_eq_true rfl) dX9_names_82 ⟨Nat.le_of_ble_eq_true rfl, Nat.le_of_ble_eq_true rfl⟩) (fun r_5 u_6 H locs h_4 hw => ?_)
  rw [if_neg (by decide)] at h_4
  subst h_4
  refine lv_if_eq (tgt := 98) hx hb dX9_names_85 (by decide) (fun _ => ?_) (fun c_ => absurd (by decide) c_)
  refine lv_iload_n hx hb dX9_names_98 rfl (lv_at hl 3 rfl) ?_
  refine lv_bipush (v := 13) hx hb dX9_names_99 (by decide) ?_
  refine lv_bipush (v := 24) hx hb dX9_names_101 (by decide) ?_
  refine r_ki hw (r_runS (rest := []) hC hw (c_X9_isIn l _ _ 18 13 24) 3 gX9_names_X9_isIn rfl rfl rfl (by decide +kernel) ⟨Nat.le_of_ble_eq_true rfl, Nat.le_of_ble_eq_true rfl⟩ rfl hl.1 rfl (Nat.le_of_ble_eq_true rfl) dX9_names_103 ⟨Nat.le_of_ble_eq_true rfl, Nat.le_of_ble_eq_true rfl⟩) (fun r_8 u_9 H locs h_7 hw => ?_)
  rw [if_pos (by decide)] at h_7
  subst h_7
  refine lv_if_ne (tgt := 115) hx hb dX9_names_106 (by decide) (fun _ => ?_) (fun c_ => absurd c_ (by decide))
  refine lv_iload_n hx hb dX9_names_115 rfl (lv_at hl 3 rfl) ?_
  refine lv_bipush (v := 13) hx hb dX9_names_116 (by decide) ?_
  refine lv_icmp_eq (tgt := 127) hx hb dX9_names_118 (by decide) (fun c_ => absurd c_ (by decide)) (fun _ => ?_)
  refine lv_iload_n hx hb dX9_names_121 rfl (lv_at hl 3 rfl) ?_
  refine lv_bipush (v := 17) hx hb dX9_names_122 (by decide) ?_
  refine lv_icmp_ne (tgt := 131) hx hb dX9_names_124 (by decide) (fun _ => ?_) (fun c_ => absurd c_ (by decide))
  refine lv_iload_n hx hb dX9_names_131 rfl (lv_at hl 3 rfl) ?_
  refine lv_bipush (v := 14) hx hb dX9_names_132 (by decide) ?_
  refine lv_icmp_eq (tgt := 149) hx hb dX9_names_134 (by decide) (fun c_ => absurd c_ (by decide)) (fun _ => ?_)
  refine lv_iload_n hx hb dX9_names_137 rfl (lv_at hl 3 rfl) ?_
  refine lv_bipush (v := 18) hx hb dX9_names_138 (by decide) ?_
  refine lv_icmp_eq (tgt := 149) hx hb dX9_names_140 (by decide) (fun _ => ?_) (fun c_ => absurd (by decide) c_)
  refine lv_iconst (v := 1) hx hb dX9_names_149 (by decide) ?_
  refine lv_goto (tgt := 182) hx hb dX9_names_150 (by decide) ?_
  refine lv_istore_n (lv' := [(2, .int 1), (4, .int 0), (3, .int 0), (0, .int 18), (1, .int wh)]) hx hb dX9_names_182 rfl hl (by decide) rfl (fun ls hl => ?_)
  refine lv_iload_n hx hb dX9_names_183 rfl (lv_at hl 3 rfl) ?_
  refine lv_bipush (v := 13) hx hb dX9_names_184 (by decide) ?_
  refine lv_icmp_ne (tgt := 193) hx hb dX9_names_186 (by decide) (fun _ => ?_) (fun c_ => absurd c_ (by decide))
  refine lv_iload_n hx hb dX9_names_193 rfl (lv_at hl 3 rfl) ?_
  refine lv_bipush (v := 14) hx hb dX9_names_194 (by decide) ?_
  refine lv_bipush (v := 16) hx hb dX9_names_196 (by decide) ?_
  refine r_ki hw (r_runS (rest := []) hC hw (c_X9_isIn l _ _ 18 14 16) 3 gX9_names_X9_isIn rfl rfl rfl (by decide +kernel) ⟨Nat.le_of_ble_eq_true rfl, Nat.le_of_ble_eq_true rfl⟩ rfl hl.1 rfl (Nat.le_of_ble_eq_true rfl) dX9_names_198 ⟨Nat.le_of_ble_eq_true rfl, Nat.le_of_ble_eq_true rfl⟩) (fun r_11 u_12 H locs h_10 hw => ?_)
  rw [if_neg (by decide)] at h_10
  subst h_10
  refine lv_if_eq (tgt := 208) hx hb dX9_names_201 (by decide) (fun _ => ?_) (fun c_ => absurd (by decide) c_)
  refine lv_iload_n hx hb dX9_names_208 rfl (lv_at hl 3 rfl) ?_
  refine lv_bipush (v := 17) hx hb dX9_names_209 (by decide) ?_
  refine lv_icmp_eq (tgt := 232) hx hb dX9_names_211 (by decide) (fun c_ => absurd c_ (by decide)) (fun _ => ?_)
  refine lv_iload_n hx hb dX9_names_214 rfl (lv_at hl 3 rfl) ?_
  refine lv_bipush (v := 19) hx hb dX9_names_215 (by decide) ?_
  refine lv_icmp_eq (tgt := 232) hx hb dX9_names_217 (by decide) (fun c_ => absurd c_ (by decide)) (fun _ => ?_)
  refine lv_iload_n hx hb dX9_names_220 rfl (lv_at hl 3 rfl) ?_
  refine lv_bipush (v := 21) hx hb dX9_names_221 (by decide) ?_
  refine lv_icmp_eq (tgt := 232) hx hb dX9_names_223 (by decide) (fun c_ => absurd c_ (by decide)) (fun _ => ?_)
  refine lv_iload_n hx hb dX9_names_226 rfl (lv_at hl 3 rfl) ?_
  refine lv_bipush (v := 23) hx hb dX9_names_227 (by decide) ?_
  refine lv_icmp_ne (tgt := 236) hx hb dX9_names_229 (by decide) (fun _ => ?_) (fun c_ => absurd c_ (by decide))
  refine lv_iconst (v := 4) hx hb dX9_names_236 (by decide) ?_
  refine lv_istore_n (lv' := [(3, .int 4), (2, .int 1), (4, .int 0), (0, .int 18), (1, .int wh)]) hx hb dX9_names_237 rfl hl (by decide) rfl (fun ls hl => ?_)
  refine lv_iload_n hx hb dX9_names_238 rfl (lv_at hl 3 rfl) ?_
  refine lv_bipush (v := 23) hx hb dX9_names_239 (by decide) ?_
  refine lv_icmp_ne (tgt := 248) hx hb dX9_names_241 (by decide) (fun _ => ?_) (fun c_ => absurd c_ (by decide))
  refine lv_iload_n hx hb dX9_names_248 rfl (lv_at hl 3 rfl) ?_
  refine lv_bipush (v := 24) hx hb dX9_names_249 (by decide) ?_
  refine lv_icmp_eq (tgt := 260) hx hb dX9_names_251 (by decide) (fun c_ => absurd c_ (by decide)) (fun _ => ?_)
  refine lv_iload_n hx hb dX9_names_254 rfl (lv_at hl 3 rfl) ?_
  refine lv_bipush (v := 26) hx hb dX9_names_255 (by decide) ?_
  refine lv_icmp_ne (tgt := 264) hx hb dX9_names_257 (by decide) (fun _ => ?_) (fun c_ => absurd c_ (by decide))
  refine lv_iconst (v := 0) hx hb dX9_names_264 (by decide) ?_
  refine lv_istore (lv' := [(4, .int 0), (3, .int 4), (2, .int 1), (0, .int 18), (1, .int wh)]) hx hb dX9_names_265 hl (by decide) rfl (fun ls hl => ?_)
  refine lv_goto (tgt := 605) hx hb dX9_names_267 (by decide) ?_
  refine lv_iload_n hx hb dX9_names_605 rfl (lv_at hl 4 rfl) ?_
  refine lv_if_ne (tgt := 613) hx hb dX9_names_606 (by decide) (fun c_13 => ?_) (fun c_13 => ?_)
  · refine lv_iload_n hx hb dX9_names_613 rfl (lv_at hl 4 rfl) ?_
    refine lv_iconst (v := 1) hx hb dX9_names_614 (by decide) ?_
    refine lv_icmp_ne (tgt := 622) hx hb dX9_names_615 (by decide) (fun c_14 => ?_) (fun c_14 => ?_)
    · refine lv_iload hx hb dX9_names_622 (lv_at hl 0 rfl) ?_
      exact r_iret hC hr hlk hw () rfl ((if_neg c_13).trans (if_neg c_14)).symm (Nat.le_of_ble_eq_true rfl) (Nat.le_of_ble_eq_true rfl) dX9_names_624
    · refine lv_iload_n hx hb dX9_names_618 rfl (lv_at hl 1 rfl) ?_
      refine lv_goto (tgt := 624) hx hb dX9_names_619 (by decide) ?_
      exact r_iret hC hr hlk hw () rfl ((if_neg c_13).trans (if_pos c_14)).symm (Nat.le_of_ble_eq_true rfl) (Nat.le_of_ble_eq_true rfl) dX9_names_624
  · refine lv_iload_n hx hb dX9_names_609 rfl (lv_at hl 2 rfl) ?_
    refine lv_goto (tgt := 624) hx hb dX9_names_610 (by decide) ?_
    exact r_iret hC hr hlk hw () rfl (if_pos c_13).symm (Nat.le_of_ble_eq_true rfl) (Nat.le_of_ble_eq_true rfl) dX9_names_624

set_option maxHeartbeats 4000000 in
set_option maxRecDepth 100000 in
theorem c_X9_names_19 (l : Launch) {D : va_G} {q : Nat → ClassId} (w : wT) (sz : Nat) (wh : Int32) : Met l yX9_names wsX9_names (rmz 1 22) (va_Pc [.int 19, .int wh] (rPre D q w sz)) (va_Qi (fun (r : Int32) (u : Unit) => r = if wh = 0 then 4 else if wh = 1 then 3 else 0) (fun (u : Unit) tt => rPo D (rA w sz) w tt) (rA w sz)) 0 0 (rA w sz) := by
  refine r_start (cc := cX9_names) (maxL := 6) (ret := (some .int)) (by decide) rfl (Nat.le_of_ble_eq_true rfl) ?_
  intro p e s m below meth c ls hC hr hlk hnm hsz hw hl
  have hx := hC.1
  have hb := hC.2.1
  have hl : lv_has ls 6 [(0, .int 19), (1, .int wh)] := hl
  refine lv_iconst (v := 0) hx hb dX9_names_0 (by decide) ?_
  refine lv_istore_n (lv' := [(2, .int 0), (0, .int 19), (1, .int wh)]) hx hb dX9_names_1 rfl hl (by decide) rfl (fun ls hl => ?_)
  refine lv_iconst (v := 0) hx hb dX9_names_2 (by decide) ?_
  refine lv_istore_n (lv' := [(3, .int 0), (2, .int 0), (0, .int 19), (1, .int wh)]) hx hb dX9_names_3 rfl hl (by decide) rfl (fun ls hl => ?_)
  refine lv_iconst (v := 0) hx hb dX9_names_4 (by decide) ?_
  refine lv_istore (lv' := [(4, .int 0), (3, .int 0), (2, .int 0), (0, .int 19), (1, .int wh)]) hx hb dX9_names_5 hl (by decide) rfl (fun ls hl => ?_)
  refine lv_iload_n hx hb dX9_names_7 rfl (lv_at hl 3 rfl) ?_
  refine lv_iconst (v := 1) hx hb dX9_names_8 (by decide) ?_
  refine lv_icmp_eq (tgt := 24) hx hb dX9_names_9 (by decide) (fun c_ => absurd c_ (by decide)) (fun _ => ?_)
  refine lv_iload_n hx hb dX9_names_12 rfl (lv_at hl 3 rfl) ?_
  refine lv_bipush (v := 72) hx hb dX9_names_13 (by decide) ?_
  refine lv_icmp_eq (tgt := 24) hx hb dX9_names_15 (by decide) (fun c_ => absurd c_ (by decide)) (fun _ => ?_)
  refine lv_iload_n hx hb dX9_names_18 rfl (lv_at hl 3 rfl) ?_
  refine lv_bipush (v := 73) hx hb dX9_names_19 (by decide) ?_
  refine lv_icmp_ne (tgt := 29) hx hb dX9_names_21 (by decide) (fun _ => ?_) (fun c_ => absurd c_ (by decide))
  refine lv_iload_n hx hb dX9_names_29 rfl (lv_at hl 3 rfl) ?_
  refine lv_iconst (v := 2) hx hb dX9_names_30 (by decide) ?_
  refine lv_icmp_ne (tgt := 39) hx hb dX9_names_31 (by decide) (fun _ => ?_) (fun c_ => absurd c_ (by decide))
  refine lv_iload_n hx hb dX9_names_39 rfl (lv_at hl 3 rfl) ?_
  refine lv_iconst (v := 3) hx hb dX9_names_40 (by decide) ?_
  refine lv_icmp_ne (tgt := 51) hx hb dX9_names_41 (by decide) (fun _ => ?_) (fun c_ => absurd c_ (by decide))
  refine lv_iload_n hx hb dX9_names_51 rfl (lv_at hl 3 rfl) ?_
  refine lv_iconst (v := 4) hx hb dX9_names_52 (by decide) ?_
  refine lv_bipush (v := 8) hx hb dX9_names_53 (by decide) ?_
  refine r_ki hw (r_runS (rest := []) hC hw (c_X9_isIn l _ _ 19 4 8) 3 gX9_names_X9_isIn rfl rfl rfl (by decide +kernel) ⟨Nat.le_of_ble_eq_true rfl, Nat.le_of_ble_eq_true rfl⟩ rfl hl.1 rfl (Nat.le_of_ble_eq_true rfl) dX9_names_55 ⟨Nat.le_of_ble_eq_true rfl, Nat.le_of_ble_eq_true rfl⟩) (fun r_2 u_3 H locs h_1 hw => ?_)
  rw [if_neg (by decide)] at h_1
  subst h_1
  refine lv_if_ne (tgt := 67) hx hb dX9_names_58 (by decide) (fun c_ => absurd (by decide) c_) (fun _ => ?_)
  refine lv_iload_n hx hb dX9_names_61 rfl (lv_at hl 3 rfl) ?_
  refine lv_bipush (v := 25) hx hb dX9_names_62 (by decide) ?_
  refine lv_icmp_ne (tgt := 77) hx hb dX9_names_64 (by decide) (fun _ => ?_) (fun c_ => absurd c_ (by decide))
  refine lv_iload_n hx hb dX9_names_77 rfl (lv_at hl 3 rfl) ?_
  refine lv_bipush (v := 9) hx hb dX9_names_78 (by decide) ?_
  refine lv_bipush (v := 12) hx hb dX9_names_80 (by decide) ?_
  refine r_ki hw (r_runS (rest := []) hC hw (c_X9_isIn l _ _ 19 9 12) 3 gX9_names_X9_isIn rfl rfl rfl (by decide +kernel) ⟨Nat.le_of_ble_eq_true rfl, Nat.le_of_ble_eq_true rfl⟩ rfl hl.1 rfl (Nat.le_of_ble_eq_true rfl) dX9_names_82 ⟨Nat.le_of_ble_eq_true rfl, Nat.le_of_ble_eq_true rfl⟩) (fun r_5 u_6 H locs h_4 hw => ?_)
  rw [if_neg (by decide)] at h_4
  subst h_4
  refine lv_if_eq (tgt := 98) hx hb dX9_names_85 (by decide) (fun _ => ?_) (fun c_ => absurd (by decide) c_)
  refine lv_iload_n hx hb dX9_names_98 rfl (lv_at hl 3 rfl) ?_
  refine lv_bipush (v := 13) hx hb dX9_names_99 (by decide) ?_
  refine lv_bipush (v := 24) hx hb dX9_names_101 (by decide) ?_
  refine r_ki hw (r_runS (rest := []) hC hw (c_X9_isIn l _ _ 19 13 24) 3 gX9_names_X9_isIn rfl rfl rfl (by decide +kernel) ⟨Nat.le_of_ble_eq_true rfl, Nat.le_of_ble_eq_true rfl⟩ rfl hl.1 rfl (Nat.le_of_ble_eq_true rfl) dX9_names_103 ⟨Nat.le_of_ble_eq_true rfl, Nat.le_of_ble_eq_true rfl⟩) (fun r_8 u_9 H locs h_7 hw => ?_)
  rw [if_pos (by decide)] at h_7
  subst h_7
  refine lv_if_ne (tgt := 115) hx hb dX9_names_106 (by decide) (fun _ => ?_) (fun c_ => absurd c_ (by decide))
  refine lv_iload_n hx hb dX9_names_115 rfl (lv_at hl 3 rfl) ?_
  refine lv_bipush (v := 13) hx hb dX9_names_116 (by decide) ?_
  refine lv_icmp_eq (tgt := 127) hx hb dX9_names_118 (by decide) (fun c_ => absurd c_ (by decide)) (fun _ => ?_)
  refine lv_iload_n hx hb dX9_names_121 rfl (lv_at hl 3 rfl) ?_
  refine lv_bipush (v := 17) hx hb dX9_names_122 (by decide) ?_
  refine lv_icmp_ne (tgt := 131) hx hb dX9_names_124 (by decide) (fun _ => ?_) (fun c_ => absurd c_ (by decide))
  refine lv_iload_n hx hb dX9_names_131 rfl (lv_at hl 3 rfl) ?_
  refine lv_bipush (v := 14) hx hb dX9_names_132 (by decide) ?_
  refine lv_icmp_eq (tgt := 149) hx hb dX9_names_134 (by decide) (fun c_ => absurd c_ (by decide)) (fun _ => ?_)
  refine lv_iload_n hx hb dX9_names_137 rfl (lv_at hl 3 rfl) ?_
  refine lv_bipush (v := 18) hx hb dX9_names_138 (by decide) ?_
  refine lv_icmp_eq (tgt := 149) hx hb dX9_names_140 (by decide) (fun c_ => absurd c_ (by decide)) (fun _ => ?_)
  refine lv_iload_n hx hb dX9_names_143 rfl (lv_at hl 3 rfl) ?_
  refine lv_bipush (v := 26) hx hb dX9_names_144 (by decide) ?_
  refine lv_icmp_ne (tgt := 153) hx hb dX9_names_146 (by decide) (fun _ => ?_) (fun c_ => absurd c_ (by decide))
  refine lv_iload_n hx hb dX9_names_153 rfl (lv_at hl 3 rfl) ?_
  refine lv_bipush (v := 15) hx hb dX9_names_154 (by decide) ?_
  refine lv_icmp_eq (tgt := 177) hx hb dX9_names_156 (by decide) (fun c_ => absurd c_ (by decide)) (fun _ => ?_)
  refine lv_iload_n hx hb dX9_names_159 rfl (lv_at hl 3 rfl) ?_
  refine lv_bipush (v := 20) hx hb dX9_names_160 (by decide) ?_
  refine lv_icmp_eq (tgt := 177) hx hb dX9_names_162 (by decide) (fun c_ => absurd c_ (by decide)) (fun _ => ?_)
  refine lv_iload_n hx hb dX9_names_165 rfl (lv_at hl 3 rfl) ?_
  refine lv_bipush (v := 21) hx hb dX9_names_166 (by decide) ?_
  refine lv_icmp_eq (tgt := 177) hx hb dX9_names_168 (by decide) (fun c_ => absurd c_ (by decide)) (fun _ => ?_)
  refine lv_iload_n hx hb dX9_names_171 rfl (lv_at hl 3 rfl) ?_
  refine lv_bipush (v := 23) hx hb dX9_names_172 (by decide) ?_
  refine lv_icmp_ne (tgt := 181) hx hb dX9_names_174 (by decide) (fun _ => ?_) (fun c_ => absurd c_ (by decide))
  refine lv_iconst (v := 4) hx hb dX9_names_181 (by decide) ?_
  refine lv_istore_n (lv' := [(2, .int 4), (4, .int 0), (3, .int 0), (0, .int 19), (1, .int wh)]) hx hb dX9_names_182 rfl hl (by decide) rfl (fun ls hl => ?_)
  refine lv_iload_n hx hb dX9_names_183 rfl (lv_at hl 3 rfl) ?_
  refine lv_bipush (v := 13) hx hb dX9_names_184 (by decide) ?_
  refine lv_icmp_ne (tgt := 193) hx hb dX9_names_186 (by decide) (fun _ => ?_) (fun c_ => absurd c_ (by decide))
  refine lv_iload_n hx hb dX9_names_193 rfl (lv_at hl 3 rfl) ?_
  refine lv_bipush (v := 14) hx hb dX9_names_194 (by decide) ?_
  refine lv_bipush (v := 16) hx hb dX9_names_196 (by decide) ?_
  refine r_ki hw (r_runS (rest := []) hC hw (c_X9_isIn l _ _ 19 14 16) 3 gX9_names_X9_isIn rfl rfl rfl (by decide +kernel) ⟨Nat.le_of_ble_eq_true rfl, Nat.le_of_ble_eq_true rfl⟩ rfl hl.1 rfl (Nat.le_of_ble_eq_true rfl) dX9_names_198 ⟨Nat.le_of_ble_eq_true rfl, Nat.le_of_ble_eq_true rfl⟩) (fun r_11 u_12 H locs h_10 hw => ?_)
  rw [if_neg (by decide)] at h_10
  subst h_10
  refine lv_if_eq (tgt := 208) hx hb dX9_names_201 (by decide) (fun _ => ?_) (fun c_ => absurd (by decide) c_)
  refine lv_iload_n hx hb dX9_names_208 rfl (lv_at hl 3 rfl) ?_
  refine lv_bipush (v := 17) hx hb dX9_names_209 (by decide) ?_
  refine lv_icmp_eq (tgt := 232) hx hb dX9_names_211 (by decide) (fun c_ => absurd c_ (by decide)) (fun _ => ?_)
  refine lv_iload_n hx hb dX9_names_214 rfl (lv_at hl 3 rfl) ?_
  refine lv_bipush (v := 19) hx hb dX9_names_215 (by decide) ?_
  refine lv_icmp_eq (tgt := 232) hx hb dX9_names_217 (by decide) (fun _ => ?_) (fun c_ => absurd (by decide) c_)
  refine lv_iconst (v := 3) hx hb dX9_names_232 (by decide) ?_
  refine lv_goto (tgt := 237) hx hb dX9_names_233 (by decide) ?_
  refine lv_istore_n (lv' := [(3, .int 3), (2, .int 4), (4, .int 0), (0, .int 19), (1, .int wh)]) hx hb dX9_names_237 rfl hl (by decide) rfl (fun ls hl => ?_)
  refine lv_iload_n hx hb dX9_names_238 rfl (lv_at hl 3 rfl) ?_
  refine lv_bipush (v := 23) hx hb dX9_names_239 (by decide) ?_
  refine lv_icmp_ne (tgt := 248) hx hb dX9_names_241 (by decide) (fun _ => ?_) (fun c_ => absurd c_ (by decide))
  refine lv_iload_n hx hb dX9_names_248 rfl (lv_at hl 3 rfl) ?_
  refine lv_bipush (v := 24) hx hb dX9_names_249 (by decide) ?_
  refine lv_icmp_eq (tgt := 260) hx hb dX9_names_251 (by decide) (fun c_ => absurd c_ (by decide)) (fun _ => ?_)
  refine lv_iload_n hx hb dX9_names_254 rfl (lv_at hl 3 rfl) ?_
  refine lv_bipush (v := 26) hx hb dX9_names_255 (by decide) ?_
  refine lv_icmp_ne (tgt := 264) hx hb dX9_names_257 (by decide) (fun _ => ?_) (fun c_ => absurd c_ (by decide))
  refine lv_iconst (v := 0) hx hb dX9_names_264 (by decide) ?_
  refine lv_istore (lv' := [(4, .int 0), (3, .int 3), (2, .int 4), (0, .int 19), (1, .int wh)]) hx hb dX9_names_265 hl (by decide) rfl (fun ls hl => ?_)
  refine lv_goto (tgt := 605) hx hb dX9_names_267 (by decide) ?_
  refine lv_iload_n hx hb dX9_names_605 rfl (lv_at hl 4 rfl) ?_
  refine lv_if_ne (tgt := 613) hx hb dX9_names_606 (by decide) (fun c_13 => ?_) (fun c_13 => ?_)
  · refine lv_iload_n hx hb dX9_names_613 rfl (lv_at hl 4 rfl) ?_
    refine lv_iconst (v := 1) hx hb dX9_names_614 (by decide) ?_
    refine lv_icmp_ne (tgt := 622) hx hb dX9_names_615 (by decide) (fun c_14 => ?_) (fun c_14 => ?_)
    · refine lv_iload hx hb dX9_names_622 (lv_at hl 0 rfl) ?_
      exact r_iret hC hr hlk hw () rfl ((if_neg c_13).trans (if_neg c_14)).symm (Nat.le_of_ble_eq_true rfl) (Nat.le_of_ble_eq_true rfl) dX9_names_624
    · refine lv_iload_n hx hb dX9_names_618 rfl (lv_at hl 1 rfl) ?_
      refine lv_goto (tgt := 624) hx hb dX9_names_619 (by decide) ?_
      exact r_iret hC hr hlk hw () rfl ((if_neg c_13).trans (if_pos c_14)).symm (Nat.le_of_ble_eq_true rfl) (Nat.le_of_ble_eq_true rfl) dX9_names_624
  · refine lv_iload_n hx hb dX9_names_609 rfl (lv_at hl 2 rfl) ?_
    refine lv_goto (tgt := 624) hx hb dX9_names_610 (by decide) ?_
    exact r_iret hC hr hlk hw () rfl (if_pos c_13).symm (Nat.le_of_ble_eq_true rfl) (Nat.le_of_ble_eq_true rfl) dX9_names_624

set_option maxHeartbeats 4000000 in
set_option maxRecDepth 100000 in
theorem c_X9_names_20 (l : Launch) {D : va_G} {q : Nat → ClassId} (w : wT) (sz : Nat) (wh : Int32) : Met l yX9_names wsX9_names (rmz 1 22) (va_Pc [.int 20, .int wh] (rPre D q w sz)) (va_Qi (fun (r : Int32) (u : Unit) => r = if wh = 0 then 3 else if wh = 1 then 4 else 0) (fun (u : Unit) tt => rPo D (rA w sz) w tt) (rA w sz)) 0 0 (rA w sz) := by
  refine r_start (cc := cX9_names) (maxL := 6) (ret := (some .int)) (by decide) rfl (Nat.le_of_ble_eq_true rfl) ?_
  intro p e s m below meth c ls hC hr hlk hnm hsz hw hl
  have hx := hC.1
  have hb := hC.2.1
  have hl : lv_has ls 6 [(0, .int 20), (1, .int wh)] := hl
  refine lv_iconst (v := 0) hx hb dX9_names_0 (by decide) ?_
  refine lv_istore_n (lv' := [(2, .int 0), (0, .int 20), (1, .int wh)]) hx hb dX9_names_1 rfl hl (by decide) rfl (fun ls hl => ?_)
  refine lv_iconst (v := 0) hx hb dX9_names_2 (by decide) ?_
  refine lv_istore_n (lv' := [(3, .int 0), (2, .int 0), (0, .int 20), (1, .int wh)]) hx hb dX9_names_3 rfl hl (by decide) rfl (fun ls hl => ?_)
  refine lv_iconst (v := 0) hx hb dX9_names_4 (by decide) ?_
  refine lv_istore (lv' := [(4, .int 0), (3, .int 0), (2, .int 0), (0, .int 20), (1, .int wh)]) hx hb dX9_names_5 hl (by decide) rfl (fun ls hl => ?_)
  refine lv_iload_n hx hb dX9_names_7 rfl (lv_at hl 3 rfl) ?_
  refine lv_iconst (v := 1) hx hb dX9_names_8 (by decide) ?_
  refine lv_icmp_eq (tgt := 24) hx hb dX9_names_9 (by decide) (fun c_ => absurd c_ (by decide)) (fun _ => ?_)
  refine lv_iload_n hx hb dX9_names_12 rfl (lv_at hl 3 rfl) ?_
  refine lv_bipush (v := 72) hx hb dX9_names_13 (by decide) ?_
  refine lv_icmp_eq (tgt := 24) hx hb dX9_names_15 (by decide) (fun c_ => absurd c_ (by decide)) (fun _ => ?_)
  refine lv_iload_n hx hb dX9_names_18 rfl (lv_at hl 3 rfl) ?_
  refine lv_bipush (v := 73) hx hb dX9_names_19 (by decide) ?_
  refine lv_icmp_ne (tgt := 29) hx hb dX9_names_21 (by decide) (fun _ => ?_) (fun c_ => absurd c_ (by decide))
  refine lv_iload_n hx hb dX9_names_29 rfl (lv_at hl 3 rfl) ?_
  refine lv_iconst (v := 2) hx hb dX9_names_30 (by decide) ?_
  refine lv_icmp_ne (tgt := 39) hx hb dX9_names_31 (by decide) (fun _ => ?_) (fun c_ => absurd c_ (by decide))
  refine lv_iload_n hx hb dX9_names_39 rfl (lv_at hl 3 rfl) ?_
  refine lv_iconst (v := 3) hx hb dX9_names_40 (by decide) ?_
  refine lv_icmp_ne (tgt := 51) hx hb dX9_names_41 (by decide) (fun _ => ?_) (fun c_ => absurd c_ (by decide))
  refine lv_iload_n hx hb dX9_names_51 rfl (lv_at hl 3 rfl) ?_
  refine lv_iconst (v := 4) hx hb dX9_names_52 (by decide) ?_
  refine lv_bipush (v := 8) hx hb dX9_names_53 (by decide) ?_
  refine r_ki hw (r_runS (rest := []) hC hw (c_X9_isIn l _ _ 20 4 8) 3 gX9_names_X9_isIn rfl rfl rfl (by decide +kernel) ⟨Nat.le_of_ble_eq_true rfl, Nat.le_of_ble_eq_true rfl⟩ rfl hl.1 rfl (Nat.le_of_ble_eq_true rfl) dX9_names_55 ⟨Nat.le_of_ble_eq_true rfl, Nat.le_of_ble_eq_true rfl⟩) (fun r_2 u_3 H locs h_1 hw => ?_)
  rw [if_neg (by decide)] at h_1
  subst h_1
  refine lv_if_ne (tgt := 67) hx hb dX9_names_58 (by decide) (fun c_ => absurd (by decide) c_) (fun _ => ?_)
  refine lv_iload_n hx hb dX9_names_61 rfl (lv_at hl 3 rfl) ?_
  refine lv_bipush (v := 25) hx hb dX9_names_62 (by decide) ?_
  refine lv_icmp_ne (tgt := 77) hx hb dX9_names_64 (by decide) (fun _ => ?_) (fun c_ => absurd c_ (by decide))
  refine lv_iload_n hx hb dX9_names_77 rfl (lv_at hl 3 rfl) ?_
  refine lv_bipush (v := 9) hx hb dX9_names_78 (by decide) ?_
  refine lv_bipush (v := 12) hx hb dX9_names_80 (by decide) ?_
  refine r_ki hw (r_runS (rest := []) hC hw (c_X9_isIn l _ _ 20 9 12) 3 gX9_names_X9_isIn rfl rfl rfl (by decide +kernel) ⟨Nat.le_of_ble_eq_true rfl, Nat.le_of_ble_eq_true rfl⟩ rfl hl.1 rfl (Nat.le_of_ble_eq_true rfl) dX9_names_82 ⟨Nat.le_of_ble_eq_true rfl, Nat.le_of_ble_eq_true rfl⟩) (fun r_5 u_6 H locs h_4 hw => ?_)
  rw [if_neg (by decide)] at h_4
  subst h_4
  refine lv_if_eq (tgt := 98) hx hb dX9_names_85 (by decide) (fun _ => ?_) (fun c_ => absurd (by decide) c_)
  refine lv_iload_n hx hb dX9_names_98 rfl (lv_at hl 3 rfl) ?_
  refine lv_bipush (v := 13) hx hb dX9_names_99 (by decide) ?_
  refine lv_bipush (v := 24) hx hb dX9_names_101 (by decide) ?_
  refine r_ki hw (r_runS (rest := []) hC hw (c_X9_isIn l _ _ 20 13 24) 3 gX9_names_X9_isIn rfl rfl rfl (by decide +kernel) ⟨Nat.le_of_ble_eq_true rfl, Nat.le_of_ble_eq_true rfl⟩ rfl hl.1 rfl (Nat.le_of_ble_eq_true rfl) dX9_names_103 ⟨Nat.le_of_ble_eq_true rfl, Nat.le_of_ble_eq_true rfl⟩) (fun r_8 u_9 H locs h_7 hw => ?_)
  rw [if_pos (by decide)] at h_7
  subst h_7
  refine lv_if_ne (tgt := 115) hx hb dX9_names_106 (by decide) (fun _ => ?_) (fun c_ => absurd c_ (by decide))
  refine lv_iload_n hx hb dX9_names_115 rfl (lv_at hl 3 rfl) ?_
  refine lv_bipush (v := 13) hx hb dX9_names_116 (by decide) ?_
  refine lv_icmp_eq (tgt := 127) hx hb dX9_names_118 (by decide) (fun c_ => absurd c_ (by decide)) (fun _ => ?_)
  refine lv_iload_n hx hb dX9_names_121 rfl (lv_at hl 3 rfl) ?_
  refine lv_bipush (v := 17) hx hb dX9_names_122 (by decide) ?_
  refine lv_icmp_ne (tgt := 131) hx hb dX9_names_124 (by decide) (fun _ => ?_) (fun c_ => absurd c_ (by decide))
  refine lv_iload_n hx hb dX9_names_131 rfl (lv_at hl 3 rfl) ?_
  refine lv_bipush (v := 14) hx hb dX9_names_132 (by decide) ?_
  refine lv_icmp_eq (tgt := 149) hx hb dX9_names_134 (by decide) (fun c_ => absurd c_ (by decide)) (fun _ => ?_)
  refine lv_iload_n hx hb dX9_names_137 rfl (lv_at hl 3 rfl) ?_
  refine lv_bipush (v := 18) hx hb dX9_names_138 (by decide) ?_
  refine lv_icmp_eq (tgt := 149) hx hb dX9_names_140 (by decide) (fun c_ => absurd c_ (by decide)) (fun _ => ?_)
  refine lv_iload_n hx hb dX9_names_143 rfl (lv_at hl 3 rfl) ?_
  refine lv_bipush (v := 26) hx hb dX9_names_144 (by decide) ?_
  refine lv_icmp_ne (tgt := 153) hx hb dX9_names_146 (by decide) (fun _ => ?_) (fun c_ => absurd c_ (by decide))
  refine lv_iload_n hx hb dX9_names_153 rfl (lv_at hl 3 rfl) ?_
  refine lv_bipush (v := 15) hx hb dX9_names_154 (by decide) ?_
  refine lv_icmp_eq (tgt := 177) hx hb dX9_names_156 (by decide) (fun c_ => absurd c_ (by decide)) (fun _ => ?_)
  refine lv_iload_n hx hb dX9_names_159 rfl (lv_at hl 3 rfl) ?_
  refine lv_bipush (v := 20) hx hb dX9_names_160 (by decide) ?_
  refine lv_icmp_eq (tgt := 177) hx hb dX9_names_162 (by decide) (fun _ => ?_) (fun c_ => absurd (by decide) c_)
  refine lv_iconst (v := 3) hx hb dX9_names_177 (by decide) ?_
  refine lv_goto (tgt := 182) hx hb dX9_names_178 (by decide) ?_
  refine lv_istore_n (lv' := [(2, .int 3), (4, .int 0), (3, .int 0), (0, .int 20), (1, .int wh)]) hx hb dX9_names_182 rfl hl (by decide) rfl (fun ls hl => ?_)
  refine lv_iload_n hx hb dX9_names_183 rfl (lv_at hl 3 rfl) ?_
  refine lv_bipush (v := 13) hx hb dX9_names_184 (by decide) ?_
  refine lv_icmp_ne (tgt := 193) hx hb dX9_names_186 (by decide) (fun _ => ?_) (fun c_ => absurd c_ (by decide))
  refine lv_iload_n hx hb dX9_names_193 rfl (lv_at hl 3 rfl) ?_
  refine lv_bipush (v := 14) hx hb dX9_names_194 (by decide) ?_
  refine lv_bipush (v := 16) hx hb dX9_names_196 (by decide) ?_
  refine r_ki hw (r_runS (rest := []) hC hw (c_X9_isIn l _ _ 20 14 16) 3 gX9_names_X9_isIn rfl rfl rfl (by decide +kernel) ⟨Nat.le_of_ble_eq_true rfl, Nat.le_of_ble_eq_true rfl⟩ rfl hl.1 rfl (Nat.le_of_ble_eq_true rfl) dX9_names_198 ⟨Nat.le_of_ble_eq_true rfl, Nat.le_of_ble_eq_true rfl⟩) (fun r_11 u_12 H locs h_10 hw => ?_)
  rw [if_neg (by decide)] at h_10
  subst h_10
  refine lv_if_eq (tgt := 208) hx hb dX9_names_201 (by decide) (fun _ => ?_) (fun c_ => absurd (by decide) c_)
  refine lv_iload_n hx hb dX9_names_208 rfl (lv_at hl 3 rfl) ?_
  refine lv_bipush (v := 17) hx hb dX9_names_209 (by decide) ?_
  refine lv_icmp_eq (tgt := 232) hx hb dX9_names_211 (by decide) (fun c_ => absurd c_ (by decide)) (fun _ => ?_)
  refine lv_iload_n hx hb dX9_names_214 rfl (lv_at hl 3 rfl) ?_
  refine lv_bipush (v := 19) hx hb dX9_names_215 (by decide) ?_
  refine lv_icmp_eq (tgt := 232) hx hb dX9_names_217 (by decide) (fun c_ => absurd c_ (by decide)) (fun _ => ?_)
  refine lv_iload_n hx hb dX9_names_220 rfl (lv_at hl 3 rfl) ?_
  refine lv_bipush (v := 21) hx hb dX9_names_221 (by decide) ?_
  refine lv_icmp_eq (tgt := 232) hx hb dX9_names_223 (by decide) (fun c_ => absurd c_ (by decide)) (fun _ => ?_)
  refine lv_iload_n hx hb dX9_names_226 rfl (lv_at hl 3 rfl) ?_
  refine lv_bipush (v := 23) hx hb dX9_names_227 (by decide) ?_
  refine lv_icmp_ne (tgt := 236) hx hb dX9_names_229 (by decide) (fun _ => ?_) (fun c_ => absurd c_ (by decide))
  refine lv_iconst (v := 4) hx hb dX9_names_236 (by decide) ?_
  refine lv_istore_n (lv' := [(3, .int 4), (2, .int 3), (4, .int 0), (0, .int 20), (1, .int wh)]) hx hb dX9_names_237 rfl hl (by decide) rfl (fun ls hl => ?_)
  refine lv_iload_n hx hb dX9_names_238 rfl (lv_at hl 3 rfl) ?_
  refine lv_bipush (v := 23) hx hb dX9_names_239 (by decide) ?_
  refine lv_icmp_ne (tgt := 248) hx hb dX9_names_241 (by decide) (fun _ => ?_) (fun c_ => absurd c_ (by decide))
  refine lv_iload_n hx hb dX9_names_248 rfl (lv_at hl 3 rfl) ?_
  refine lv_bipush (v := 24) hx hb dX9_names_249 (by decide) ?_
  refine lv_icmp_eq (tgt := 260) hx hb dX9_names_251 (by decide) (fun c_ => absurd c_ (by decide)) (fun _ => ?_)
  refine lv_iload_n hx hb dX9_names_254 rfl (lv_at hl 3 rfl) ?_
  refine lv_bipush (v := 26) hx hb dX9_names_255 (by decide) ?_
  refine lv_icmp_ne (tgt := 264) hx hb dX9_names_257 (by decide) (fun _ => ?_) (fun c_ => absurd c_ (by decide))
  refine lv_iconst (v := 0) hx hb dX9_names_264 (by decide) ?_
  refine lv_istore (lv' := [(4, .int 0), (3, .int 4), (2, .int 3), (0, .int 20), (1, .int wh)]) hx hb dX9_names_265 hl (by decide) rfl (fun ls hl => ?_)
  refine lv_goto (tgt := 605) hx hb dX9_names_267 (by decide) ?_
  refine lv_iload_n hx hb dX9_names_605 rfl (lv_at hl 4 rfl) ?_
  refine lv_if_ne (tgt := 613) hx hb dX9_names_606 (by decide) (fun c_13 => ?_) (fun c_13 => ?_)
  · refine lv_iload_n hx hb dX9_names_613 rfl (lv_at hl 4 rfl) ?_
    refine lv_iconst (v := 1) hx hb dX9_names_614 (by decide) ?_
    refine lv_icmp_ne (tgt := 622) hx hb dX9_names_615 (by decide) (fun c_14 => ?_) (fun c_14 => ?_)
    · refine lv_iload hx hb dX9_names_622 (lv_at hl 0 rfl) ?_
      exact r_iret hC hr hlk hw () rfl ((if_neg c_13).trans (if_neg c_14)).symm (Nat.le_of_ble_eq_true rfl) (Nat.le_of_ble_eq_true rfl) dX9_names_624
    · refine lv_iload_n hx hb dX9_names_618 rfl (lv_at hl 1 rfl) ?_
      refine lv_goto (tgt := 624) hx hb dX9_names_619 (by decide) ?_
      exact r_iret hC hr hlk hw () rfl ((if_neg c_13).trans (if_pos c_14)).symm (Nat.le_of_ble_eq_true rfl) (Nat.le_of_ble_eq_true rfl) dX9_names_624
  · refine lv_iload_n hx hb dX9_names_609 rfl (lv_at hl 2 rfl) ?_
    refine lv_goto (tgt := 624) hx hb dX9_names_610 (by decide) ?_
    exact r_iret hC hr hlk hw () rfl (if_pos c_13).symm (Nat.le_of_ble_eq_true rfl) (Nat.le_of_ble_eq_true rfl) dX9_names_624

set_option maxHeartbeats 4000000 in
set_option maxRecDepth 100000 in
theorem c_X9_names_21 (l : Launch) {D : va_G} {q : Nat → ClassId} (w : wT) (sz : Nat) (wh : Int32) : Met l yX9_names wsX9_names (rmz 1 22) (va_Pc [.int 21, .int wh] (rPre D q w sz)) (va_Qi (fun (r : Int32) (u : Unit) => r = if wh = 0 then 3 else if wh = 1 then 3 else 0) (fun (u : Unit) tt => rPo D (rA w sz) w tt) (rA w sz)) 0 0 (rA w sz) := by
  refine r_start (cc := cX9_names) (maxL := 6) (ret := (some .int)) (by decide) rfl (Nat.le_of_ble_eq_true rfl) ?_
  intro p e s m below meth c ls hC hr hlk hnm hsz hw hl
  have hx := hC.1
  have hb := hC.2.1
  have hl : lv_has ls 6 [(0, .int 21), (1, .int wh)] := hl
  refine lv_iconst (v := 0) hx hb dX9_names_0 (by decide) ?_
  refine lv_istore_n (lv' := [(2, .int 0), (0, .int 21), (1, .int wh)]) hx hb dX9_names_1 rfl hl (by decide) rfl (fun ls hl => ?_)
  refine lv_iconst (v := 0) hx hb dX9_names_2 (by decide) ?_
  refine lv_istore_n (lv' := [(3, .int 0), (2, .int 0), (0, .int 21), (1, .int wh)]) hx hb dX9_names_3 rfl hl (by decide) rfl (fun ls hl => ?_)
  refine lv_iconst (v := 0) hx hb dX9_names_4 (by decide) ?_
  refine lv_istore (lv' := [(4, .int 0), (3, .int 0), (2, .int 0), (0, .int 21), (1, .int wh)]) hx hb dX9_names_5 hl (by decide) rfl (fun ls hl => ?_)
  refine lv_iload_n hx hb dX9_names_7 rfl (lv_at hl 3 rfl) ?_
  refine lv_iconst (v := 1) hx hb dX9_names_8 (by decide) ?_
  refine lv_icmp_eq (tgt := 24) hx hb dX9_names_9 (by decide) (fun c_ => absurd c_ (by decide)) (fun _ => ?_)
  refine lv_iload_n hx hb dX9_names_12 rfl (lv_at hl 3 rfl) ?_
  refine lv_bipush (v := 72) hx hb dX9_names_13 (by decide) ?_
  refine lv_icmp_eq (tgt := 24) hx hb dX9_names_15 (by decide) (fun c_ => absurd c_ (by decide)) (fun _ => ?_)
  refine lv_iload_n hx hb dX9_names_18 rfl (lv_at hl 3 rfl) ?_
  refine lv_bipush (v := 73) hx hb dX9_names_19 (by decide) ?_
  refine lv_icmp_ne (tgt := 29) hx hb dX9_names_21 (by decide) (fun _ => ?_) (fun c_ => absurd c_ (by decide))
  refine lv_iload_n hx hb dX9_names_29 rfl (lv_at hl 3 rfl) ?_
  refine lv_iconst (v := 2) hx hb dX9_names_30 (by decide) ?_
  refine lv_icmp_ne (tgt := 39) hx hb dX9_names_31 (by decide) (fun _ => ?_) (fun c_ => absurd c_ (by decide))
  refine lv_iload_n hx hb dX9_names_39 rfl (lv_at hl 3 rfl) ?_
  refine lv_iconst (v := 3) hx hb dX9_names_40 (by decide) ?_
  refine lv_icmp_ne (tgt := 51) hx hb dX9_names_41 (by decide) (fun _ => ?_) (fun c_ => absurd c_ (by decide))
  refine lv_iload_n hx hb dX9_names_51 rfl (lv_at hl 3 rfl) ?_
  refine lv_iconst (v := 4) hx hb dX9_names_52 (by decide) ?_
  refine lv_bipush (v := 8) hx hb dX9_names_53 (by decide) ?_
  refine r_ki hw (r_runS (rest := []) hC hw (c_X9_isIn l _ _ 21 4 8) 3 gX9_names_X9_isIn rfl rfl rfl (by decide +kernel) ⟨Nat.le_of_ble_eq_true rfl, Nat.le_of_ble_eq_true rfl⟩ rfl hl.1 rfl (Nat.le_of_ble_eq_true rfl) dX9_names_55 ⟨Nat.le_of_ble_eq_true rfl, Nat.le_of_ble_eq_true rfl⟩) (fun r_2 u_3 H locs h_1 hw => ?_)
  rw [if_neg (by decide)] at h_1
  subst h_1
  refine lv_if_ne (tgt := 67) hx hb dX9_names_58 (by decide) (fun c_ => absurd (by decide) c_) (fun _ => ?_)
  refine lv_iload_n hx hb dX9_names_61 rfl (lv_at hl 3 rfl) ?_
  refine lv_bipush (v := 25) hx hb dX9_names_62 (by decide) ?_
  refine lv_icmp_ne (tgt := 77) hx hb dX9_names_64 (by decide) (fun _ => ?_) (fun c_ => absurd c_ (by decide))
  refine lv_iload_n hx hb dX9_names_77 rfl (lv_at hl 3 rfl) ?_
  refine lv_bipush (v := 9) hx hb dX9_names_78 (by decide) ?_
  refine lv_bipush (v := 12) hx hb dX9_names_80 (by decide) ?_
  refine r_ki hw (r_runS (rest := []) hC hw (c_X9_isIn l _ _ 21 9 12) 3 gX9_names_X9_isIn rfl rfl rfl (by decide +kernel) ⟨Nat.le_of_ble_eq_true rfl, Nat.le_of_ble_eq_true rfl⟩ rfl hl.1 rfl (Nat.le_of_ble_eq_true rfl) dX9_names_82 ⟨Nat.le_of_ble_eq_true rfl, Nat.le_of_ble_eq_true rfl⟩) (fun r_5 u_6 H locs h_4 hw => ?_)
  rw [if_neg (by decide)] at h_4
  subst h_4
  refine lv_if_eq (tgt := 98) hx hb dX9_names_85 (by decide) (fun _ => ?_) (fun c_ => absurd (by decide) c_)
  refine lv_iload_n hx hb dX9_names_98 rfl (lv_at hl 3 rfl) ?_
  refine lv_bipush (v := 13) hx hb dX9_names_99 (by decide) ?_
  refine lv_bipush (v := 24) hx hb dX9_names_101 (by decide) ?_
  refine r_ki hw (r_runS (rest := []) hC hw (c_X9_isIn l _ _ 21 13 24) 3 gX9_names_X9_isIn rfl rfl rfl (by decide +kernel) ⟨Nat.le_of_ble_eq_true rfl, Nat.le_of_ble_eq_true rfl⟩ rfl hl.1 rfl (Nat.le_of_ble_eq_true rfl) dX9_names_103 ⟨Nat.le_of_ble_eq_true rfl, Nat.le_of_ble_eq_true rfl⟩) (fun r_8 u_9 H locs h_7 hw => ?_)
  rw [if_pos (by decide)] at h_7
  subst h_7
  refine lv_if_ne (tgt := 115) hx hb dX9_names_106 (by decide) (fun _ => ?_) (fun c_ => absurd c_ (by decide))
  refine lv_iload_n hx hb dX9_names_115 rfl (lv_at hl 3 rfl) ?_
  refine lv_bipush (v := 13) hx hb dX9_names_116 (by decide) ?_
  refine lv_icmp_eq (tgt := 127) hx hb dX9_names_118 (by decide) (fun c_ => absurd c_ (by decide)) (fun _ => ?_)
  refine lv_iload_n hx hb dX9_names_121 rfl (lv_at hl 3 rfl) ?_
  refine lv_bipush (v := 17) hx hb dX9_names_122 (by decide) ?_
  refine lv_icmp_ne (tgt := 131) hx hb dX9_names_124 (by decide) (fun _ => ?_) (fun c_ => absurd c_ (by decide))
  refine lv_iload_n hx hb dX9_names_131 rfl (lv_at hl 3 rfl) ?_
  refine lv_bipush (v := 14) hx hb dX9_names_132 (by decide) ?_
  refine lv_icmp_eq (tgt := 149) hx hb dX9_names_134 (by decide) (fun c_ => absurd c_ (by decide)) (fun _ => ?_)
  refine lv_iload_n hx hb dX9_names_137 rfl (lv_at hl 3 rfl) ?_
  refine lv_bipush (v := 18) hx hb dX9_names_138 (by decide) ?_
  refine lv_icmp_eq (tgt := 149) hx hb dX9_names_140 (by decide) (fun c_ => absurd c_ (by decide)) (fun _ => ?_)
  refine lv_iload_n hx hb dX9_names_143 rfl (lv_at hl 3 rfl) ?_
  refine lv_bipush (v := 26) hx hb dX9_names_144 (by decide) ?_
  refine lv_icmp_ne (tgt := 153) hx hb dX9_names_146 (by decide) (fun _ => ?_) (fun c_ => absurd c_ (by decide))
  refine lv_iload_n hx hb dX9_names_153 rfl (lv_at hl 3 rfl) ?_
  refine lv_bipush (v := 15) hx hb dX9_names_154 (by decide) ?_
  refine lv_icmp_eq (tgt := 177) hx hb dX9_names_156 (by decide) (fun c_ => absurd c_ (by decide)) (fun _ => ?_)
  refine lv_iload_n hx hb dX9_names_159 rfl (lv_at hl 3 rfl) ?_
  refine lv_bipush (v := 20) hx hb dX9_names_160 (by decide) ?_
  refine lv_icmp_eq (tgt := 177) hx hb dX9_names_162 (by decide) (fun c_ => absurd c_ (by decide)) (fun _ => ?_)
  refine lv_iload_n hx hb dX9_names_165 rfl (lv_at hl 3 rfl) ?_
  refine lv_bipush (v := 21) hx hb dX9_names_166 (by decide) ?_
  refine lv_icmp_eq (tgt := 177) hx hb dX9_names_168 (by decide) (fun _ => ?_) (fun c_ => absurd (by decide) c_)
  refine lv_iconst (v := 3) hx hb dX9_names_177 (by decide) ?_
  refine lv_goto (tgt := 182) hx hb dX9_names_178 (by decide) ?_
  refine lv_istore_n (lv' := [(2, .int 3), (4, .int 0), (3, .int 0), (0, .int 21), (1, .int wh)]) hx hb dX9_names_182 rfl hl (by decide) rfl (fun ls hl => ?_)
  refine lv_iload_n hx hb dX9_names_183 rfl (lv_at hl 3 rfl) ?_
  refine lv_bipush (v := 13) hx hb dX9_names_184 (by decide) ?_
  refine lv_icmp_ne (tgt := 193) hx hb dX9_names_186 (by decide) (fun _ => ?_) (fun c_ => absurd c_ (by decide))
  refine lv_iload_n hx hb dX9_names_193 rfl (lv_at hl 3 rfl) ?_
  refine lv_bipush (v := 14) hx hb dX9_names_194 (by decide) ?_
  refine lv_bipush (v := 16) hx hb dX9_names_196 (by decide) ?_
  refine r_ki hw (r_runS (rest := []) hC hw (c_X9_isIn l _ _ 21 14 16) 3 gX9_names_X9_isIn rfl rfl rfl (by decide +kernel) ⟨Nat.le_of_ble_eq_true rfl, Nat.le_of_ble_eq_true rfl⟩ rfl hl.1 rfl (Nat.le_of_ble_eq_true rfl) dX9_names_198 ⟨Nat.le_of_ble_eq_true rfl, Nat.le_of_ble_eq_true rfl⟩) (fun r_11 u_12 H locs h_10 hw => ?_)
  rw [if_neg (by decide)] at h_10
  subst h_10
  refine lv_if_eq (tgt := 208) hx hb dX9_names_201 (by decide) (fun _ => ?_) (fun c_ => absurd (by decide) c_)
  refine lv_iload_n hx hb dX9_names_208 rfl (lv_at hl 3 rfl) ?_
  refine lv_bipush (v := 17) hx hb dX9_names_209 (by decide) ?_
  refine lv_icmp_eq (tgt := 232) hx hb dX9_names_211 (by decide) (fun c_ => absurd c_ (by decide)) (fun _ => ?_)
  refine lv_iload_n hx hb dX9_names_214 rfl (lv_at hl 3 rfl) ?_
  refine lv_bipush (v := 19) hx hb dX9_names_215 (by decide) ?_
  refine lv_icmp_eq (tgt := 232) hx hb dX9_names_217 (by decide) (fun c_ => absurd c_ (by decide)) (fun _ => ?_)
  refine lv_iload_n hx hb dX9_names_220 rfl (lv_at hl 3 rfl) ?_
  refine lv_bipush (v := 21) hx hb dX9_names_221 (by decide) ?_
  refine lv_icmp_eq (tgt := 232) hx hb dX9_names_223 (by decide) (fun _ => ?_) (fun c_ => absurd (by decide) c_)
  refine lv_iconst (v := 3) hx hb dX9_names_232 (by decide) ?_
  refine lv_goto (tgt := 237) hx hb dX9_names_233 (by decide) ?_
  refine lv_istore_n (lv' := [(3, .int 3), (2, .int 3), (4, .int 0), (0, .int 21), (1, .int wh)]) hx hb dX9_names_237 rfl hl (by decide) rfl (fun ls hl => ?_)
  refine lv_iload_n hx hb dX9_names_238 rfl (lv_at hl 3 rfl) ?_
  refine lv_bipush (v := 23) hx hb dX9_names_239 (by decide) ?_
  refine lv_icmp_ne (tgt := 248) hx hb dX9_names_241 (by decide) (fun _ => ?_) (fun c_ => absurd c_ (by decide))
  refine lv_iload_n hx hb dX9_names_248 rfl (lv_at hl 3 rfl) ?_
  refine lv_bipush (v := 24) hx hb dX9_names_249 (by decide) ?_
  refine lv_icmp_eq (tgt := 260) hx hb dX9_names_251 (by decide) (fun c_ => absurd c_ (by decide)) (fun _ => ?_)
  refine lv_iload_n hx hb dX9_names_254 rfl (lv_at hl 3 rfl) ?_
  refine lv_bipush (v := 26) hx hb dX9_names_255 (by decide) ?_
  refine lv_icmp_ne (tgt := 264) hx hb dX9_names_257 (by decide) (fun _ => ?_) (fun c_ => absurd c_ (by decide))
  refine lv_iconst (v := 0) hx hb dX9_names_264 (by decide) ?_
  refine lv_istore (lv' := [(4, .int 0), (3, .int 3), (2, .int 3), (0, .int 21), (1, .int wh)]) hx hb dX9_names_265 hl (by decide) rfl (fun ls hl => ?_)
  refine lv_goto (tgt := 605) hx hb dX9_names_267 (by decide) ?_
  refine lv_iload_n hx hb dX9_names_605 rfl (lv_at hl 4 rfl) ?_
  refine lv_if_ne (tgt := 613) hx hb dX9_names_606 (by decide) (fun c_13 => ?_) (fun c_13 => ?_)
  · refine lv_iload_n hx hb dX9_names_613 rfl (lv_at hl 4 rfl) ?_
    refine lv_iconst (v := 1) hx hb dX9_names_614 (by decide) ?_
    refine lv_icmp_ne (tgt := 622) hx hb dX9_names_615 (by decide) (fun c_14 => ?_) (fun c_14 => ?_)
    · refine lv_iload hx hb dX9_names_622 (lv_at hl 0 rfl) ?_
      exact r_iret hC hr hlk hw () rfl ((if_neg c_13).trans (if_neg c_14)).symm (Nat.le_of_ble_eq_true rfl) (Nat.le_of_ble_eq_true rfl) dX9_names_624
    · refine lv_iload_n hx hb dX9_names_618 rfl (lv_at hl 1 rfl) ?_
      refine lv_goto (tgt := 624) hx hb dX9_names_619 (by decide) ?_
      exact r_iret hC hr hlk hw () rfl ((if_neg c_13).trans (if_pos c_14)).symm (Nat.le_of_ble_eq_true rfl) (Nat.le_of_ble_eq_true rfl) dX9_names_624
  · refine lv_iload_n hx hb dX9_names_609 rfl (lv_at hl 2 rfl) ?_
    refine lv_goto (tgt := 624) hx hb dX9_names_610 (by decide) ?_
    exact r_iret hC hr hlk hw () rfl (if_pos c_13).symm (Nat.le_of_ble_eq_true rfl) (Nat.le_of_ble_eq_true rfl) dX9_names_624

set_option maxHeartbeats 4000000 in
set_option maxRecDepth 100000 in
theorem c_X9_names_22 (l : Launch) {D : va_G} {q : Nat → ClassId} (w : wT) (sz : Nat) (wh : Int32) : Met l yX9_names wsX9_names (rmz 1 22) (va_Pc [.int 22, .int wh] (rPre D q w sz)) (va_Qi (fun (r : Int32) (u : Unit) => r = if wh = 0 then 4 else if wh = 1 then 4 else 0) (fun (u : Unit) tt => rPo D (rA w sz) w tt) (rA w sz)) 0 0 (rA w sz) := by
  refine r_start (cc := cX9_names) (maxL := 6) (ret := (some .int)) (by decide) rfl (Nat.le_of_ble_eq_true rfl) ?_
  intro p e s m below meth c ls hC hr hlk hnm hsz hw hl
  have hx := hC.1
  have hb := hC.2.1
  have hl : lv_has ls 6 [(0, .int 22), (1, .int wh)] := hl
  refine lv_iconst (v := 0) hx hb dX9_names_0 (by decide) ?_
  refine lv_istore_n (lv' := [(2, .int 0), (0, .int 22), (1, .int wh)]) hx hb dX9_names_1 rfl hl (by decide) rfl (fun ls hl => ?_)
  refine lv_iconst (v := 0) hx hb dX9_names_2 (by decide) ?_
  refine lv_istore_n (lv' := [(3, .int 0), (2, .int 0), (0, .int 22), (1, .int wh)]) hx hb dX9_names_3 rfl hl (by decide) rfl (fun ls hl => ?_)
  refine lv_iconst (v := 0) hx hb dX9_names_4 (by decide) ?_
  refine lv_istore (lv' := [(4, .int 0), (3, .int 0), (2, .int 0), (0, .int 22), (1, .int wh)]) hx hb dX9_names_5 hl (by decide) rfl (fun ls hl => ?_)
  refine lv_iload_n hx hb dX9_names_7 rfl (lv_at hl 3 rfl) ?_
  refine lv_iconst (v := 1) hx hb dX9_names_8 (by decide) ?_
  refine lv_icmp_eq (tgt := 24) hx hb dX9_names_9 (by decide) (fun c_ => absurd c_ (by decide)) (fun _ => ?_)
  refine lv_iload_n hx hb dX9_names_12 rfl (lv_at hl 3 rfl) ?_
  refine lv_bipush (v := 72) hx hb dX9_names_13 (by decide) ?_
  refine lv_icmp_eq (tgt := 24) hx hb dX9_names_15 (by decide) (fun c_ => absurd c_ (by decide)) (fun _ => ?_)
  refine lv_iload_n hx hb dX9_names_18 rfl (lv_at hl 3 rfl) ?_
  refine lv_bipush (v := 73) hx hb dX9_names_19 (by decide) ?_
  refine lv_icmp_ne (tgt := 29) hx hb dX9_names_21 (by decide) (fun _ => ?_) (fun c_ => absurd c_ (by decide))
  refine lv_iload_n hx hb dX9_names_29 rfl (lv_at hl 3 rfl) ?_
  refine lv_iconst (v := 2) hx hb dX9_names_30 (by decide) ?_
  refine lv_icmp_ne (tgt := 39) hx hb dX9_names_31 (by decide) (fun _ => ?_) (fun c_ => absurd c_ (by decide))
  refine lv_iload_n hx hb dX9_names_39 rfl (lv_at hl 3 rfl) ?_
  refine lv_iconst (v := 3) hx hb dX9_names_40 (by decide) ?_
  refine lv_icmp_ne (tgt := 51) hx hb dX9_names_41 (by decide) (fun _ => ?_) (fun c_ => absurd c_ (by decide))
  refine lv_iload_n hx hb dX9_names_51 rfl (lv_at hl 3 rfl) ?_
  refine lv_iconst (v := 4) hx hb dX9_names_52 (by decide) ?_
  refine lv_bipush (v := 8) hx hb dX9_names_53 (by decide) ?_
  refine r_ki hw (r_runS (rest := []) hC hw (c_X9_isIn l _ _ 22 4 8) 3 gX9_names_X9_isIn rfl rfl rfl (by decide +kernel) ⟨Nat.le_of_ble_eq_true rfl, Nat.le_of_ble_eq_true rfl⟩ rfl hl.1 rfl (Nat.le_of_ble_eq_true rfl) dX9_names_55 ⟨Nat.le_of_ble_eq_true rfl, Nat.le_of_ble_eq_true rfl⟩) (fun r_2 u_3 H locs h_1 hw => ?_)
  rw [if_neg (by decide)] at h_1
  subst h_1
  refine lv_if_ne (tgt := 67) hx hb dX9_names_58 (by decide) (fun c_ => absurd (by decide) c_) (fun _ => ?_)
  refine lv_iload_n hx hb dX9_names_61 rfl (lv_at hl 3 rfl) ?_
  refine lv_bipush (v := 25) hx hb dX9_names_62 (by decide) ?_
  refine lv_icmp_ne (tgt := 77) hx hb dX9_names_64 (by decide) (fun _ => ?_) (fun c_ => absurd c_ (by decide))
  refine lv_iload_n hx hb dX9_names_77 rfl (lv_at hl 3 rfl) ?_
  refine lv_bipush (v := 9) hx hb dX9_names_78 (by decide) ?_
  refine lv_bipush (v := 12) hx hb dX9_names_80 (by decide) ?_
  refine r_ki hw (r_runS (rest := []) hC hw (c_X9_isIn l _ _ 22 9 12) 3 gX9_names_X9_isIn rfl rfl rfl (by decide +kernel) ⟨Nat.le_of_ble_eq_true rfl, Nat.le_of_ble_eq_true rfl⟩ rfl hl.1 rfl (Nat.le_of_ble_eq_true rfl) dX9_names_82 ⟨Nat.le_of_ble_eq_true rfl, Nat.le_of_ble_eq_true rfl⟩) (fun r_5 u_6 H locs h_4 hw => ?_)
  rw [if_neg (by decide)] at h_4
  subst h_4
  refine lv_if_eq (tgt := 98) hx hb dX9_names_85 (by decide) (fun _ => ?_) (fun c_ => absurd (by decide) c_)
  refine lv_iload_n hx hb dX9_names_98 rfl (lv_at hl 3 rfl) ?_
  refine lv_bipush (v := 13) hx hb dX9_names_99 (by decide) ?_
  refine lv_bipush (v := 24) hx hb dX9_names_101 (by decide) ?_
  refine r_ki hw (r_runS (rest := []) hC hw (c_X9_isIn l _ _ 22 13 24) 3 gX9_names_X9_isIn rfl rfl rfl (by decide +kernel) ⟨Nat.le_of_ble_eq_true rfl, Nat.le_of_ble_eq_true rfl⟩ rfl hl.1 rfl (Nat.le_of_ble_eq_true rfl) dX9_names_103 ⟨Nat.le_of_ble_eq_true rfl, Nat.le_of_ble_eq_true rfl⟩) (fun r_8 u_9 H locs h_7 hw => ?_)
  rw [if_pos (by decide)] at h_7
  subst h_7
  refine lv_if_ne (tgt := 115) hx hb dX9_names_106 (by decide) (fun _ => ?_) (fun c_ => absurd c_ (by decide))
  refine lv_iload_n hx hb dX9_names_115 rfl (lv_at hl 3 rfl) ?_
  refine lv_bipush (v := 13) hx hb dX9_names_116 (by decide) ?_
  refine lv_icmp_eq (tgt := 127) hx hb dX9_names_118 (by decide) (fun c_ => absurd c_ (by decide)) (fun _ => ?_)
  refine lv_iload_n hx hb dX9_names_121 rfl (lv_at hl 3 rfl) ?_
  refine lv_bipush (v := 17) hx hb dX9_names_122 (by decide) ?_
  refine lv_icmp_ne (tgt := 131) hx hb dX9_names_124 (by decide) (fun _ => ?_) (fun c_ => absurd c_ (by decide))
  refine lv_iload_n hx hb dX9_names_131 rfl (lv_at hl 3 rfl) ?_
  refine lv_bipush (v := 14) hx hb dX9_names_132 (by decide) ?_
  refine lv_icmp_eq (tgt := 149) hx hb dX9_names_134 (by decide) (fun c_ => absurd c_ (by decide)) (fun _ => ?_)
  refine lv_iload_n hx hb dX9_names_137 rfl (lv_at hl 3 rfl) ?_
  refine lv_bipush (v := 18) hx hb dX9_names_138 (by decide) ?_
  refine lv_icmp_eq (tgt := 149) hx hb dX9_names_140 (by decide) (fun c_ => absurd c_ (by decide)) (fun _ => ?_)
  refine lv_iload_n hx hb dX9_names_143 rfl (lv_at hl 3 rfl) ?_
  refine lv_bipush (v := 26) hx hb dX9_names_144 (by decide) ?_
  refine lv_icmp_ne (tgt := 153) hx hb dX9_names_146 (by decide) (fun _ => ?_) (fun c_ => absurd c_ (by decide))
  refine lv_iload_n hx hb dX9_names_153 rfl (lv_at hl 3 rfl) ?_
  refine lv_bipush (v := 15) hx hb dX9_names_154 (by decide) ?_
  refine lv_icmp_eq (tgt := 177) hx hb dX9_names_156 (by decide) (fun c_ => absurd c_ (by decide)) (fun _ => ?_)
  refine lv_iload_n hx hb dX9_names_159 rfl (lv_at hl 3 rfl) ?_
  refine lv_bipush (v := 20) hx hb dX9_names_160 (by decide) ?_
  refine lv_icmp_eq (tgt := 177) hx hb dX9_names_162 (by decide) (fun c_ => absurd c_ (by decide)) (fun _ => ?_)
  refine lv_iload_n hx hb dX9_names_165 rfl (lv_at hl 3 rfl) ?_
  refine lv_bipush (v := 21) hx hb dX9_names_166 (by decide) ?_
  refine lv_icmp_eq (tgt := 177) hx hb dX9_names_168 (by decide) (fun c_ => absurd c_ (by decide)) (fun _ => ?_)
  refine lv_iload_n hx hb dX9_names_171 rfl (lv_at hl 3 rfl) ?_
  refine lv_bipush (v := 23) hx hb dX9_names_172 (by decide) ?_
  refine lv_icmp_ne (tgt := 181) hx hb dX9_names_174 (by decide) (fun _ => ?_) (fun c_ => absurd c_ (by decide))
  refine lv_iconst (v := 4) hx hb dX9_names_181 (by decide) ?_
  refine lv_istore_n (lv' := [(2, .int 4), (4, .int 0), (3, .int 0), (0, .int 22), (1, .int wh)]) hx hb dX9_names_182 rfl hl (by decide) rfl (fun ls hl => ?_)
  refine lv_iload_n hx hb dX9_names_183 rfl (lv_at hl 3 rfl) ?_
  refine lv_bipush (v := 13) hx hb dX9_names_184 (by decide) ?_
  refine lv_icmp_ne (tgt := 193) hx hb dX9_names_186 (by decide) (fun _ => ?_) (fun c_ => absurd c_ (by decide))
  refine lv_iload_n hx hb dX9_names_193 rfl (lv_at hl 3 rfl) ?_
  refine lv_bipush (v := 14) hx hb dX9_names_194 (by decide) ?_
  refine lv_bipush (v := 16) hx hb dX9_names_196 (by decide) ?_
  refine r_ki hw (r_runS (rest := []) hC hw (c_X9_isIn l _ _ 22 14 16) 3 gX9_names_X9_isIn rfl rfl rfl (by decide +kernel) ⟨Nat.le_of_ble_eq_true rfl, Nat.le_of_ble_eq_true rfl⟩ rfl hl.1 rfl (Nat.le_of_ble_eq_true rfl) dX9_names_198 ⟨Nat.le_of_ble_eq_true rfl, Nat.le_of_ble_eq_true rfl⟩) (fun r_11 u_12 H locs h_10 hw => ?_)
  rw [if_neg (by decide)] at h_10
  subst h_10
  refine lv_if_eq (tgt := 208) hx hb dX9_names_201 (by decide) (fun _ => ?_) (fun c_ => absurd (by decide) c_)
  refine lv_iload_n hx hb dX9_names_208 rfl (lv_at hl 3 rfl) ?_
  refine lv_bipush (v := 17) hx hb dX9_names_209 (by decide) ?_
  refine lv_icmp_eq (tgt := 232) hx hb dX9_names_211 (by decide) (fun c_ => absurd c_ (by decide)) (fun _ => ?_)
  refine lv_iload_n hx hb dX9_names_214 rfl (lv_at hl 3 rfl) ?_
  refine lv_bipush (v := 19) hx hb dX9_names_215 (by decide) ?_
  refine lv_icmp_eq (tgt := 232) hx hb dX9_names_217 (by decide) (fun c_ => absurd c_ (by decide)) (fun _ => ?_)
  refine lv_iload_n hx hb dX9_names_220 rfl (lv_at hl 3 rfl) ?_
  refine lv_bipush (v := 21) hx hb dX9_names_221 (by decide) ?_
  refine lv_icmp_eq (tgt := 232) hx hb dX9_names_223 (by decide) (fun c_ => absurd c_ (by decide)) (fun _ => ?_)
  refine lv_iload_n hx hb dX9_names_226 rfl (lv_at hl 3 rfl) ?_
  refine lv_bipush (v := 23) hx hb dX9_names_227 (by decide) ?_
  refine lv_icmp_ne (tgt := 236) hx hb dX9_names_229 (by decide) (fun _ => ?_) (fun c_ => absurd c_ (by decide))
  refine lv_iconst (v := 4) hx hb dX9_names_236 (by decide) ?_
  refine lv_istore_n (lv' := [(3, .int 4), (2, .int 4), (4, .int 0), (0, .int 22), (1, .int wh)]) hx hb dX9_names_237 rfl hl (by decide) rfl (fun ls hl => ?_)
  refine lv_iload_n hx hb dX9_names_238 rfl (lv_at hl 3 rfl) ?_
  refine lv_bipush (v := 23) hx hb dX9_names_239 (by decide) ?_
  refine lv_icmp_ne (tgt := 248) hx hb dX9_names_241 (by decide) (fun _ => ?_) (fun c_ => absurd c_ (by decide))
  refine lv_iload_n hx hb dX9_names_248 rfl (lv_at hl 3 rfl) ?_
  refine lv_bipush (v := 24) hx hb dX9_names_249 (by decide) ?_
  refine lv_icmp_eq (tgt := 260) hx hb dX9_names_251 (by decide) (fun c_ => absurd c_ (by decide)) (fun _ => ?_)
  refine lv_iload_n hx hb dX9_names_254 rfl (lv_at hl 3 rfl) ?_
  refine lv_bipush (v := 26) hx hb dX9_names_255 (by decide) ?_
  refine lv_icmp_ne (tgt := 264) hx hb dX9_names_257 (by decide) (fun _ => ?_) (fun c_ => absurd c_ (by decide))
  refine lv_iconst (v := 0) hx hb dX9_names_264 (by decide) ?_
  refine lv_istore (lv' := [(4, .int 0), (3, .int 4), (2, .int 4), (0, .int 22), (1, .int wh)]) hx hb dX9_names_265 hl (by decide) rfl (fun ls hl => ?_)
  refine lv_goto (tgt := 605) hx hb dX9_names_267 (by decide) ?_
  refine lv_iload_n hx hb dX9_names_605 rfl (lv_at hl 4 rfl) ?_
  refine lv_if_ne (tgt := 613) hx hb dX9_names_606 (by decide) (fun c_13 => ?_) (fun c_13 => ?_)
  · refine lv_iload_n hx hb dX9_names_613 rfl (lv_at hl 4 rfl) ?_
    refine lv_iconst (v := 1) hx hb dX9_names_614 (by decide) ?_
    refine lv_icmp_ne (tgt := 622) hx hb dX9_names_615 (by decide) (fun c_14 => ?_) (fun c_14 => ?_)
    · refine lv_iload hx hb dX9_names_622 (lv_at hl 0 rfl) ?_
      exact r_iret hC hr hlk hw () rfl ((if_neg c_13).trans (if_neg c_14)).symm (Nat.le_of_ble_eq_true rfl) (Nat.le_of_ble_eq_true rfl) dX9_names_624
    · refine lv_iload_n hx hb dX9_names_618 rfl (lv_at hl 1 rfl) ?_
      refine lv_goto (tgt := 624) hx hb dX9_names_619 (by decide) ?_
      exact r_iret hC hr hlk hw () rfl ((if_neg c_13).trans (if_pos c_14)).symm (Nat.le_of_ble_eq_true rfl) (Nat.le_of_ble_eq_true rfl) dX9_names_624
  · refine lv_iload_n hx hb dX9_names_609 rfl (lv_at hl 2 rfl) ?_
    refine lv_goto (tgt := 624) hx hb dX9_names_610 (by decide) ?_
    exact r_iret hC hr hlk hw () rfl (if_pos c_13).symm (Nat.le_of_ble_eq_true rfl) (Nat.le_of_ble_eq_true rfl) dX9_names_624

set_option maxHeartbeats 4000000 in
set_option maxRecDepth 100000 in
theorem c_X9_names_23 (l : Launch) {D : va_G} {q : Nat → ClassId} (w : wT) (sz : Nat) (wh : Int32) : Met l yX9_names wsX9_names (rmz 1 22) (va_Pc [.int 23, .int wh] (rPre D q w sz)) (va_Qi (fun (r : Int32) (u : Unit) => r = if wh = 0 then 3 else if wh = 1 then 3 else 3) (fun (u : Unit) tt => rPo D (rA w sz) w tt) (rA w sz)) 0 0 (rA w sz) := by
  refine r_start (cc := cX9_names) (maxL := 6) (ret := (some .int)) (by decide) rfl (Nat.le_of_ble_eq_true rfl) ?_
  intro p e s m below meth c ls hC hr hlk hnm hsz hw hl
  have hx := hC.1
  have hb := hC.2.1
  have hl : lv_has ls 6 [(0, .int 23), (1, .int wh)] := hl
  refine lv_iconst (v := 0) hx hb dX9_names_0 (by decide) ?_
  refine lv_istore_n (lv' := [(2, .int 0), (0, .int 23), (1, .int wh)]) hx hb dX9_names_1 rfl hl (by decide) rfl (fun ls hl => ?_)
  refine lv_iconst (v := 0) hx hb dX9_names_2 (by decide) ?_
  refine lv_istore_n (lv' := [(3, .int 0), (2, .int 0), (0, .int 23), (1, .int wh)]) hx hb dX9_names_3 rfl hl (by decide) rfl (fun ls hl => ?_)
  refine lv_iconst (v := 0) hx hb dX9_names_4 (by decide) ?_
  refine lv_istore (lv' := [(4, .int 0), (3, .int 0), (2, .int 0), (0, .int 23), (1, .int wh)]) hx hb dX9_names_5 hl (by decide) rfl (fun ls hl => ?_)
  refine lv_iload_n hx hb dX9_names_7 rfl (lv_at hl 3 rfl) ?_
  refine lv_iconst (v := 1) hx hb dX9_names_8 (by decide) ?_
  refine lv_icmp_eq (tgt := 24) hx hb dX9_names_9 (by decide) (fun c_ => absurd c_ (by decide)) (fun _ => ?_)
  refine lv_iload_n hx hb dX9_names_12 rfl (lv_at hl 3 rfl) ?_
  refine lv_bipush (v := 72) hx hb dX9_names_13 (by decide) ?_
  refine lv_icmp_eq (tgt := 24) hx hb dX9_names_15 (by decide) (fun c_ => absurd c_ (by decide)) (fun _ => ?_)
  refine lv_iload_n hx hb dX9_names_18 rfl (lv_at hl 3 rfl) ?_
  refine lv_bipush (v := 73) hx hb dX9_names_19 (by decide) ?_
  refine lv_icmp_ne (tgt := 29) hx hb dX9_names_21 (by decide) (fun _ => ?_) (fun c_ => absurd c_ (by decide))
  refine lv_iload_n hx hb dX9_names_29 rfl (lv_at hl 3 rfl) ?_
  refine lv_iconst (v := 2) hx hb dX9_names_30 (by decide) ?_
  refine lv_icmp_ne (tgt := 39) hx hb dX9_names_31 (by decide) (fun _ => ?_) (fun c_ => absurd c_ (by decide))
  refine lv_iload_n hx hb dX9_names_39 rfl (lv_at hl 3 rfl) ?_
  refine lv_iconst (v := 3) hx hb dX9_names_40 (by decide) ?_
  refine lv_icmp_ne (tgt := 51) hx hb dX9_names_41 (by decide) (fun _ => ?_) (fun c_ => absurd c_ (by decide))
  refine lv_iload_n hx hb dX9_names_51 rfl (lv_at hl 3 rfl) ?_
  refine lv_iconst (v := 4) hx hb dX9_names_52 (by decide) ?_
  refine lv_bipush (v := 8) hx hb dX9_names_53 (by decide) ?_
  refine r_ki hw (r_runS (rest := []) hC hw (c_X9_isIn l _ _ 23 4 8) 3 gX9_names_X9_isIn rfl rfl rfl (by decide +kernel) ⟨Nat.le_of_ble_eq_true rfl, Nat.le_of_ble_eq_true rfl⟩ rfl hl.1 rfl (Nat.le_of_ble_eq_true rfl) dX9_names_55 ⟨Nat.le_of_ble_eq_true rfl, Nat.le_of_ble_eq_true rfl⟩) (fun r_2 u_3 H locs h_1 hw => ?_)
  rw [if_neg (by decide)] at h_1
  subst h_1
  refine lv_if_ne (tgt := 67) hx hb dX9_names_58 (by decide) (fun c_ => absurd (by decide) c_) (fun _ => ?_)
  refine lv_iload_n hx hb dX9_names_61 rfl (lv_at hl 3 rfl) ?_
  refine lv_bipush (v := 25) hx hb dX9_names_62 (by decide) ?_
  refine lv_icmp_ne (tgt := 77) hx hb dX9_names_64 (by decide) (fun _ => ?_) (fun c_ => absurd c_ (by decide))
  refine lv_iload_n hx hb dX9_names_77 rfl (lv_at hl 3 rfl) ?_
  refine lv_bipush (v := 9) hx hb dX9_names_78 (by decide) ?_
  refine lv_bipush (v := 12) hx hb dX9_names_80 (by decide) ?_
  refine r_ki hw (r_runS (rest := []) hC hw (c_X9_isIn l _ _ 23 9 12) 3 gX9_names_X9_isIn rfl rfl rfl (by decide +kernel) ⟨Nat.le_of_ble_eq_true rfl, Nat.le_of_ble_eq_true rfl⟩ rfl hl.1 rfl (Nat.le_of_ble_eq_true rfl) dX9_names_82 ⟨Nat.le_of_ble_eq_true rfl, Nat.le_of_ble_eq_true rfl⟩) (fun r_5 u_6 H locs h_4 hw => ?_)
  rw [if_neg (by decide)] at h_4
  subst h_4
  refine lv_if_eq (tgt := 98) hx hb dX9_names_85 (by decide) (fun _ => ?_) (fun c_ => absurd (by decide) c_)
  refine lv_iload_n hx hb dX9_names_98 rfl (lv_at hl 3 rfl) ?_
  refine lv_bipush (v := 13) hx hb dX9_names_99 (by decide) ?_
  refine lv_bipush (v := 24) hx hb dX9_names_101 (by decide) ?_
  refine r_ki hw (r_runS (rest := []) hC hw (c_X9_isIn l _ _ 23 13 24) 3 gX9_names_X9_isIn rfl rfl rfl (by decide +kernel) ⟨Nat.le_of_ble_eq_true rfl, Nat.le_of_ble_eq_true rfl⟩ rfl hl.1 rfl (Nat.le_of_ble_eq_true rfl) dX9_names_103 ⟨Nat.le_of_ble_eq_true rfl, Nat.le_of_ble_eq_true rfl⟩) (fun r_8 u_9 H locs h_7 hw => ?_)
  rw [if_pos (by decide)] at h_7
  subst h_7
  refine lv_if_ne (tgt := 115) hx hb dX9_names_106 (by decide) (fun _ => ?_) (fun c_ => absurd c_ (by decide))
  refine lv_iload_n hx hb dX9_names_115 rfl (lv_at hl 3 rfl) ?_
  refine lv_bipush (v := 13) hx hb dX9_names_116 (by decide) ?_
  refine lv_icmp_eq (tgt := 127) hx hb dX9_names_118 (by decide) (fun c_ => absurd c_ (by decide)) (fun _ => ?_)
  refine lv_iload_n hx hb dX9_names_121 rfl (lv_at hl 3 rfl) ?_
  refine lv_bipush (v := 17) hx hb dX9_names_122 (by decide) ?_
  refine lv_icmp_ne (tgt := 131) hx hb dX9_names_124 (by decide) (fun _ => ?_) (fun c_ => absurd c_ (by decide))
  refine lv_iload_n hx hb dX9_names_131 rfl (lv_at hl 3 rfl) ?_
  refine lv_bipush (v := 14) hx hb dX9_names_132 (by decide) ?_
  refine lv_icmp_eq (tgt := 149) hx hb dX9_names_134 (by decide) (fun c_ => absurd c_ (by decide)) (fun _ => ?_)
  refine lv_iload_n hx hb dX9_names_137 rfl (lv_at hl 3 rfl) ?_
  refine lv_bipush (v := 18) hx hb dX9_names_138 (by decide) ?_
  refine lv_icmp_eq (tgt := 149) hx hb dX9_names_140 (by decide) (fun c_ => absurd c_ (by decide)) (fun _ => ?_)
  refine lv_iload_n hx hb dX9_names_143 rfl (lv_at hl 3 rfl) ?_
  refine lv_bipush (v := 26) hx hb dX9_names_144 (by decide) ?_
  refine lv_icmp_ne (tgt := 153) hx hb dX9_names_146 (by decide) (fun _ => ?_) (fun c_ => absurd c_ (by decide))
  refine lv_iload_n hx hb dX9_names_153 rfl (lv_at hl 3 rfl) ?_
  refine lv_bipush (v := 15) hx hb dX9_names_154 (by decide) ?_
  refine lv_icmp_eq (tgt := 177) hx hb dX9_names_156 (by decide) (fun c_ => absurd c_ (by decide)) (fun _ => ?_)
  refine lv_iload_n hx hb dX9_names_159 rfl (lv_at hl 3 rfl) ?_
  refine lv_bipush (v := 20) hx hb dX9_names_160 (by decide) ?_
  refine lv_icmp_eq (tgt := 177) hx hb dX9_names_162 (by decide) (fun c_ => absurd c_ (by decide)) (fun _ => ?_)
  refine lv_iload_n hx hb dX9_names_165 rfl (lv_at hl 3 rfl) ?_
  refine lv_bipush (v := 21) hx hb dX9_names_166 (by decide) ?_
  refine lv_icmp_eq (tgt := 177) hx hb dX9_names_168 (by decide) (fun c_ => absurd c_ (by decide)) (fun _ => ?_)
  refine lv_iload_n hx hb dX9_names_171 rfl (lv_at hl 3 rfl) ?_
  refine lv_bipush (v := 23) hx hb dX9_names_172 (by decide) ?_
  refine lv_icmp_ne (tgt := 181) hx hb dX9_names_174 (by decide) (fun c_ => absurd (by decide) c_) (fun _ => ?_)
  refine lv_iconst (v := 3) hx hb dX9_names_177 (by decide) ?_
  refine lv_goto (tgt := 182) hx hb dX9_names_178 (by decide) ?_
  refine lv_istore_n (lv' := [(2, .int 3), (4, .int 0), (3, .int 0), (0, .int 23), (1, .int wh)]) hx hb dX9_names_182 rfl hl (by decide) rfl (fun ls hl => ?_)
  refine lv_iload_n hx hb dX9_names_183 rfl (lv_at hl 3 rfl) ?_
  refine lv_bipush (v := 13) hx hb dX9_names_184 (by decide) ?_
  refine lv_icmp_ne (tgt := 193) hx hb dX9_names_186 (by decide) (fun _ => ?_) (fun c_ => absurd c_ (by decide))
  refine lv_iload_n hx hb dX9_names_193 rfl (lv_at hl 3 rfl) ?_
  refine lv_bipush (v := 14) hx hb dX9_names_194 (by decide) ?_
  refine lv_bipush (v := 16) hx hb dX9_names_196 (by decide) ?_
  refine r_ki hw (r_runS (rest := []) hC hw (c_X9_isIn l _ _ 23 14 16) 3 gX9_names_X9_isIn rfl rfl rfl (by decide +kernel) ⟨Nat.le_of_ble_eq_true rfl, Nat.le_of_ble_eq_true rfl⟩ rfl hl.1 rfl (Nat.le_of_ble_eq_true rfl) dX9_names_198 ⟨Nat.le_of_ble_eq_true rfl, Nat.le_of_ble_eq_true rfl⟩) (fun r_11 u_12 H locs h_10 hw => ?_)
  rw [if_neg (by decide)] at h_10
  subst h_10
  refine lv_if_eq (tgt := 208) hx hb dX9_names_201 (by decide) (fun _ => ?_) (fun c_ => absurd (by decide) c_)
  refine lv_iload_n hx hb dX9_names_208 rfl (lv_at hl 3 rfl) ?_
  refine lv_bipush (v := 17) hx hb dX9_names_209 (by decide) ?_
  refine lv_icmp_eq (tgt := 232) hx hb dX9_names_211 (by decide) (fun c_ => absurd c_ (by decide)) (fun _ => ?_)
  refine lv_iload_n hx hb dX9_names_214 rfl (lv_at hl 3 rfl) ?_
  refine lv_bipush (v := 19) hx hb dX9_names_215 (by decide) ?_
  refine lv_icmp_eq (tgt := 232) hx hb dX9_names_217 (by decide) (fun c_ => absurd c_ (by decide)) (fun _ => ?_)
  refine lv_iload_n hx hb dX9_names_220 rfl (lv_at hl 3 rfl) ?_
  refine lv_bipush (v := 21) hx hb dX9_names_221 (by decide) ?_
  refine lv_icmp_eq (tgt := 232) hx hb dX9_names_223 (by decide) (fun c_ => absurd c_ (by decide)) (fun _ => ?_)
  refine lv_iload_n hx hb dX9_names_226 rfl (lv_at hl 3 rfl) ?_
  refine lv_bipush (v := 23) hx hb dX9_names_227 (by decide) ?_
  refine lv_icmp_ne (tgt := 236) hx hb dX9_names_229 (by decide) (fun c_ => absurd (by decide) c_) (fun _ => ?_)
  refine lv_iconst (v := 3) hx hb dX9_names_232 (by decide) ?_
  refine lv_goto (tgt := 237) hx hb dX9_names_233 (by decide) ?_
  refine lv_istore_n (lv' := [(3, .int 3), (2, .int 3), (4, .int 0), (0, .int 23), (1, .int wh)]) hx hb dX9_names_237 rfl hl (by decide) rfl (fun ls hl => ?_)
  refine lv_iload_n hx hb dX9_names_238 rfl (lv_at hl 3 rfl) ?_
  refine lv_bipush (v := 23) hx hb dX9_names_239 (by decide) ?_
  refine lv_icmp_ne (tgt := 248) hx hb dX9_names_241 (by decide) (fun c_ => absurd (by decide) c_) (fun _ => ?_)
  refine lv_iconst (v := 3) hx hb dX9_names_244 (by decide) ?_
  refine lv_goto (tgt := 265) hx hb dX9_names_245 (by decide) ?_
  refine lv_istore (lv' := [(4, .int 3), (3, .int 3), (2, .int 3), (0, .int 23), (1, .int wh)]) hx hb dX9_names_265 hl (by decide) rfl (fun ls hl => ?_)
  refine lv_goto (tgt := 605) hx hb dX9_names_267 (by decide) ?_
  refine lv_iload_n hx hb dX9_names_605 rfl (lv_at hl 4 rfl) ?_
  refine lv_if_ne (tgt := 613) hx hb dX9_names_606 (by decide) (fun c_13 => ?_) (fun c_13 => ?_)
  · refine lv_iload_n hx hb dX9_names_613 rfl (lv_at hl 4 rfl) ?_
    refine lv_iconst (v := 1) hx hb dX9_names_614 (by decide) ?_
    refine lv_icmp_ne (tgt := 622) hx hb dX9_names_615 (by decide) (fun c_14 => ?_) (fun c_14 => ?_)
    · refine lv_iload hx hb dX9_names_622 (lv_at hl 0 rfl) ?_
      exact r_iret hC hr hlk hw () rfl ((if_neg c_13).trans (if_neg c_14)).symm (Nat.le_of_ble_eq_true rfl) (Nat.le_of_ble_eq_true rfl) dX9_names_624
    · refine lv_iload_n hx hb dX9_names_618 rfl (lv_at hl 1 rfl) ?_
      refine lv_goto (tgt := 624) hx hb dX9_names_619 (by decide) ?_
      exact r_iret hC hr hlk hw () rfl ((if_neg c_13).trans (if_pos c_14)).symm (Nat.le_of_ble_eq_true rfl) (Nat.le_of_ble_eq_true rfl) dX9_names_624
  · refine lv_iload_n hx hb dX9_names_609 rfl (lv_at hl 2 rfl) ?_
    refine lv_goto (tgt := 624) hx hb dX9_names_610 (by decide) ?_
    exact r_iret hC hr hlk hw () rfl (if_pos c_13).symm (Nat.le_of_ble_eq_true rfl) (Nat.le_of_ble_eq_true rfl) dX9_names_624

set_option maxHeartbeats 4000000 in
set_option maxRecDepth 100000 in
theorem c_X9_names_24 (l : Launch) {D : va_G} {q : Nat → ClassId} (w : wT) (sz : Nat) (wh : Int32) : Met l yX9_names wsX9_names (rmz 1 22) (va_Pc [.int 24, .int wh] (rPre D q w sz)) (va_Qi (fun (r : Int32) (u : Unit) => r = if wh = 0 then 4 else if wh = 1 then 4 else 4) (fun (u : Unit) tt => rPo D (rA w sz) w tt) (rA w sz)) 0 0 (rA w sz) := by
  refine r_start (cc := cX9_names) (maxL := 6) (ret := (some .int)) (by decide) rfl (Nat.le_of_ble_eq_true rfl) ?_
  intro p e s m below meth c ls hC hr hlk hnm hsz hw hl
  have hx := hC.1
  have hb := hC.2.1
  have hl : lv_has ls 6 [(0, .int 24), (1, .int wh)] := hl
  refine lv_iconst (v := 0) hx hb dX9_names_0 (by decide) ?_
  refine lv_istore_n (lv' := [(2, .int 0), (0, .int 24), (1, .int wh)]) hx hb dX9_names_1 rfl hl (by decide) rfl (fun ls hl => ?_)
  refine lv_iconst (v := 0) hx hb dX9_names_2 (by decide) ?_
  refine lv_istore_n (lv' := [(3, .int 0), (2, .int 0), (0, .int 24), (1, .int wh)]) hx hb dX9_names_3 rfl hl (by decide) rfl (fun ls hl => ?_)
  refine lv_iconst (v := 0) hx hb dX9_names_4 (by decide) ?_
  refine lv_istore (lv' := [(4, .int 0), (3, .int 0), (2, .int 0), (0, .int 24), (1, .int wh)]) hx hb dX9_names_5 hl (by decide) rfl (fun ls hl => ?_)
  refine lv_iload_n hx hb dX9_names_7 rfl (lv_at hl 3 rfl) ?_
  refine lv_iconst (v := 1) hx hb dX9_names_8 (by decide) ?_
  refine lv_icmp_eq (tgt := 24) hx hb dX9_names_9 (by decide) (fun c_ => absurd c_ (by decide)) (fun _ => ?_)
  refine lv_iload_n hx hb dX9_names_12 rfl (lv_at hl 3 rfl) ?_
  refine lv_bipush (v := 72) hx hb dX9_names_13 (by decide) ?_
  refine lv_icmp_eq (tgt := 24) hx hb dX9_names_15 (by decide) (fun c_ => absurd c_ (by decide)) (fun _ => ?_)
  refine lv_iload_n hx hb dX9_names_18 rfl (lv_at hl 3 rfl) ?_
  refine lv_bipush (v := 73) hx hb dX9_names_19 (by decide) ?_
  refine lv_icmp_ne (tgt := 29) hx hb dX9_names_21 (by decide) (fun _ => ?_) (fun c_ => absurd c_ (by decide))
  refine lv_iload_n hx hb dX9_names_29 rfl (lv_at hl 3 rfl) ?_
  refine lv_iconst (v := 2) hx hb dX9_names_30 (by decide) ?_
  refine lv_icmp_ne (tgt := 39) hx hb dX9_names_31 (by decide) (fun _ => ?_) (fun c_ => absurd c_ (by decide))
  refine lv_iload_n hx hb dX9_names_39 rfl (lv_at hl 3 rfl) ?_
  refine lv_iconst (v := 3) hx hb dX9_names_40 (by decide) ?_
  refine lv_icmp_ne (tgt := 51) hx hb dX9_names_41 (by decide) (fun _ => ?_) (fun c_ => absurd c_ (by decide))
  refine lv_iload_n hx hb dX9_names_51 rfl (lv_at hl 3 rfl) ?_
  refine lv_iconst (v := 4) hx hb dX9_names_52 (by decide) ?_
  refine lv_bipush (v := 8) hx hb dX9_names_53 (by decide) ?_
  refine r_ki hw (r_runS (rest := []) hC hw (c_X9_isIn l _ _ 24 4 8) 3 gX9_names_X9_isIn rfl rfl rfl (by decide +kernel) ⟨Nat.le_of_ble_eq_true rfl, Nat.le_of_ble_eq_true rfl⟩ rfl hl.1 rfl (Nat.le_of_ble_eq_true rfl) dX9_names_55 ⟨Nat.le_of_ble_eq_true rfl, Nat.le_of_ble_eq_true rfl⟩) (fun r_2 u_3 H locs h_1 hw => ?_)
  rw [if_neg (by decide)] at h_1
  subst h_1
  refine lv_if_ne (tgt := 67) hx hb dX9_names_58 (by decide) (fun c_ => absurd (by decide) c_) (fun _ => ?_)
  refine lv_iload_n hx hb dX9_names_61 rfl (lv_at hl 3 rfl) ?_
  refine lv_bipush (v := 25) hx hb dX9_names_62 (by decide) ?_
  refine lv_icmp_ne (tgt := 77) hx hb dX9_names_64 (by decide) (fun _ => ?_) (fun c_ => absurd c_ (by decide))
  refine lv_iload_n hx hb dX9_names_77 rfl (lv_at hl 3 rfl) ?_
  refine lv_bipush (v := 9) hx hb dX9_names_78 (by decide) ?_
  refine lv_bipush (v := 12) hx hb dX9_names_80 (by decide) ?_
  refine r_ki hw (r_runS (rest := []) hC hw (c_X9_isIn l _ _ 24 9 12) 3 gX9_names_X9_isIn rfl rfl rfl (by decide +kernel) ⟨Nat.le_of_ble_eq_true rfl, Nat.le_of_ble_eq_true rfl⟩ rfl hl.1 rfl (Nat.le_of_ble_eq_true rfl) dX9_names_82 ⟨Nat.le_of_ble_eq_true rfl, Nat.le_of_ble_eq_true rfl⟩) (fun r_5 u_6 H locs h_4 hw => ?_)
  rw [if_neg (by decide)] at h_4
  subst h_4
  refine lv_if_eq (tgt := 98) hx hb dX9_names_85 (by decide) (fun _ => ?_) (fun c_ => absurd (by decide) c_)
  refine lv_iload_n hx hb dX9_names_98 rfl (lv_at hl 3 rfl) ?_
  refine lv_bipush (v := 13) hx hb dX9_names_99 (by decide) ?_
  refine lv_bipush (v := 24) hx hb dX9_names_101 (by decide) ?_
  refine r_ki hw (r_runS (rest := []) hC hw (c_X9_isIn l _ _ 24 13 24) 3 gX9_names_X9_isIn rfl rfl rfl (by decide +kernel) ⟨Nat.le_of_ble_eq_true rfl, Nat.le_of_ble_eq_true rfl⟩ rfl hl.1 rfl (Nat.le_of_ble_eq_true rfl) dX9_names_103 ⟨Nat.le_of_ble_eq_true rfl, Nat.le_of_ble_eq_true rfl⟩) (fun r_8 u_9 H locs h_7 hw => ?_)
  rw [if_pos (by decide)] at h_7
  subst h_7
  refine lv_if_ne (tgt := 115) hx hb dX9_names_106 (by decide) (fun _ => ?_) (fun c_ => absurd c_ (by decide))
  refine lv_iload_n hx hb dX9_names_115 rfl (lv_at hl 3 rfl) ?_
  refine lv_bipush (v := 13) hx hb dX9_names_116 (by decide) ?_
  refine lv_icmp_eq (tgt := 127) hx hb dX9_names_118 (by decide) (fun c_ => absurd c_ (by decide)) (fun _ => ?_)
  refine lv_iload_n hx hb dX9_names_121 rfl (lv_at hl 3 rfl) ?_
  refine lv_bipush (v := 17) hx hb dX9_names_122 (by decide) ?_
  refine lv_icmp_ne (tgt := 131) hx hb dX9_names_124 (by decide) (fun _ => ?_) (fun c_ => absurd c_ (by decide))
  refine lv_iload_n hx hb dX9_names_131 rfl (lv_at hl 3 rfl) ?_
  refine lv_bipush (v := 14) hx hb dX9_names_132 (by decide) ?_
  refine lv_icmp_eq (tgt := 149) hx hb dX9_names_134 (by decide) (fun c_ => absurd c_ (by decide)) (fun _ => ?_)
  refine lv_iload_n hx hb dX9_names_137 rfl (lv_at hl 3 rfl) ?_
  refine lv_bipush (v := 18) hx hb dX9_names_138 (by decide) ?_
  refine lv_icmp_eq (tgt := 149) hx hb dX9_names_140 (by decide) (fun c_ => absurd c_ (by decide)) (fun _ => ?_)
  refine lv_iload_n hx hb dX9_names_143 rfl (lv_at hl 3 rfl) ?_
  refine lv_bipush (v := 26) hx hb dX9_names_144 (by decide) ?_
  refine lv_icmp_ne (tgt := 153) hx hb dX9_names_146 (by decide) (fun _ => ?_) (fun c_ => absurd c_ (by decide))
  refine lv_iload_n hx hb dX9_names_153 rfl (lv_at hl 3 rfl) ?_
  refine lv_bipush (v := 15) hx hb dX9_names_154 (by decide) ?_
  refine lv_icmp_eq (tgt := 177) hx hb dX9_names_156 (by decide) (fun c_ => absurd c_ (by decide)) (fun _ => ?_)
  refine lv_iload_n hx hb dX9_names_159 rfl (lv_at hl 3 rfl) ?_
  refine lv_bipush (v := 20) hx hb dX9_names_160 (by decide) ?_
  refine lv_icmp_eq (tgt := 177) hx hb dX9_names_162 (by decide) (fun c_ => absurd c_ (by decide)) (fun _ => ?_)
  refine lv_iload_n hx hb dX9_names_165 rfl (lv_at hl 3 rfl) ?_
  refine lv_bipush (v := 21) hx hb dX9_names_166 (by decide) ?_
  refine lv_icmp_eq (tgt := 177) hx hb dX9_names_168 (by decide) (fun c_ => absurd c_ (by decide)) (fun _ => ?_)
  refine lv_iload_n hx hb dX9_names_171 rfl (lv_at hl 3 rfl) ?_
  refine lv_bipush (v := 23) hx hb dX9_names_172 (by decide) ?_
  refine lv_icmp_ne (tgt := 181) hx hb dX9_names_174 (by decide) (fun _ => ?_) (fun c_ => absurd c_ (by decide))
  refine lv_iconst (v := 4) hx hb dX9_names_181 (by decide) ?_
  refine lv_istore_n (lv' := [(2, .int 4), (4, .int 0), (3, .int 0), (0, .int 24), (1, .int wh)]) hx hb dX9_names_182 rfl hl (by decide) rfl (fun ls hl => ?_)
  refine lv_iload_n hx hb dX9_names_183 rfl (lv_at hl 3 rfl) ?_
  refine lv_bipush (v := 13) hx hb dX9_names_184 (by decide) ?_
  refine lv_icmp_ne (tgt := 193) hx hb dX9_names_186 (by decide) (fun _ => ?_) (fun c_ => absurd c_ (by decide))
  refine lv_iload_n hx hb dX9_names_193 rfl (lv_at hl 3 rfl) ?_
  refine lv_bipush (v := 14) hx hb dX9_names_194 (by decide) ?_
  refine lv_bipush (v := 16) hx hb dX9_names_196 (by decide) ?_
  refine r_ki hw (r_runS (rest := []) hC hw (c_X9_isIn l _ _ 24 14 16) 3 gX9_names_X9_isIn rfl rfl rfl (by decide +kernel) ⟨Nat.le_of_ble_eq_true rfl, Nat.le_of_ble_eq_true rfl⟩ rfl hl.1 rfl (Nat.le_of_ble_eq_true rfl) dX9_names_198 ⟨Nat.le_of_ble_eq_true rfl, Nat.le_of_ble_eq_true rfl⟩) (fun r_11 u_12 H locs h_10 hw => ?_)
  rw [if_neg (by decide)] at h_10
  subst h_10
  refine lv_if_eq (tgt := 208) hx hb dX9_names_201 (by decide) (fun _ => ?_) (fun c_ => absurd (by decide) c_)
  refine lv_iload_n hx hb dX9_names_208 rfl (lv_at hl 3 rfl) ?_
  refine lv_bipush (v := 17) hx hb dX9_names_209 (by decide) ?_
  refine lv_icmp_eq (tgt := 232) hx hb dX9_names_211 (by decide) (fun c_ => absurd c_ (by decide)) (fun _ => ?_)
  refine lv_iload_n hx hb dX9_names_214 rfl (lv_at hl 3 rfl) ?_
  refine lv_bipush (v := 19) hx hb dX9_names_215 (by decide) ?_
  refine lv_icmp_eq (tgt := 232) hx hb dX9_names_217 (by decide) (fun c_ => absurd c_ (by decide)) (fun _ => ?_)
  refine lv_iload_n hx hb dX9_names_220 rfl (lv_at hl 3 rfl) ?_
  refine lv_bipush (v := 21) hx hb dX9_names_221 (by decide) ?_
  refine lv_icmp_eq (tgt := 232) hx hb dX9_names_223 (by decide) (fun c_ => absurd c_ (by decide)) (fun _ => ?_)
  refine lv_iload_n hx hb dX9_names_226 rfl (lv_at hl 3 rfl) ?_
  refine lv_bipush (v := 23) hx hb dX9_names_227 (by decide) ?_
  refine lv_icmp_ne (tgt := 236) hx hb dX9_names_229 (by decide) (fun _ => ?_) (fun c_ => absurd c_ (by decide))
  refine lv_iconst (v := 4) hx hb dX9_names_236 (by decide) ?_
  refine lv_istore_n (lv' := [(3, .int 4), (2, .int 4), (4, .int 0), (0, .int 24), (1, .int wh)]) hx hb dX9_names_237 rfl hl (by decide) rfl (fun ls hl => ?_)
  refine lv_iload_n hx hb dX9_names_238 rfl (lv_at hl 3 rfl) ?_
  refine lv_bipush (v := 23) hx hb dX9_names_239 (by decide) ?_
  refine lv_icmp_ne (tgt := 248) hx hb dX9_names_241 (by decide) (fun _ => ?_) (fun c_ => absurd c_ (by decide))
  refine lv_iload_n hx hb dX9_names_248 rfl (lv_at hl 3 rfl) ?_
  refine lv_bipush (v := 24) hx hb dX9_names_249 (by decide) ?_
  refine lv_icmp_eq (tgt := 260) hx hb dX9_names_251 (by decide) (fun _ => ?_) (fun c_ => absurd (by decide) c_)
  refine lv_iconst (v := 4) hx hb dX9_names_260 (by decide) ?_
  refine lv_goto (tgt := 265) hx hb dX9_names_261 (by decide) ?_
  refine lv_istore (lv' := [(4, .int 4), (3, .int 4), (2, .int 4), (0, .int 24), (1, .int wh)]) hx hb dX9_names_265 hl (by decide) rfl (fun ls hl => ?_)
  refine lv_goto (tgt := 605) hx hb dX9_names_267 (by decide) ?_
  refine lv_iload_n hx hb dX9_names_605 rfl (lv_at hl 4 rfl) ?_
  refine lv_if_ne (tgt := 613) hx hb dX9_names_606 (by decide) (fun c_13 => ?_) (fun c_13 => ?_)
  · refine lv_iload_n hx hb dX9_names_613 rfl (lv_at hl 4 rfl) ?_
    refine lv_iconst (v := 1) hx hb dX9_names_614 (by decide) ?_
    refine lv_icmp_ne (tgt := 622) hx hb dX9_names_615 (by decide) (fun c_14 => ?_) (fun c_14 => ?_)
    · refine lv_iload hx hb dX9_names_622 (lv_at hl 0 rfl) ?_
      exact r_iret hC hr hlk hw () rfl ((if_neg c_13).trans (if_neg c_14)).symm (Nat.le_of_ble_eq_true rfl) (Nat.le_of_ble_eq_true rfl) dX9_names_624
    · refine lv_iload_n hx hb dX9_names_618 rfl (lv_at hl 1 rfl) ?_
      refine lv_goto (tgt := 624) hx hb dX9_names_619 (by decide) ?_
      exact r_iret hC hr hlk hw () rfl ((if_neg c_13).trans (if_pos c_14)).symm (Nat.le_of_ble_eq_true rfl) (Nat.le_of_ble_eq_true rfl) dX9_names_624
  · refine lv_iload_n hx hb dX9_names_609 rfl (lv_at hl 2 rfl) ?_
    refine lv_goto (tgt := 624) hx hb dX9_names_610 (by decide) ?_
    exact r_iret hC hr hlk hw () rfl (if_pos c_13).symm (Nat.le_of_ble_eq_true rfl) (Nat.le_of_ble_eq_true rfl) dX9_names_624

set_option maxHeartbeats 4000000 in
set_option maxRecDepth 100000 in
theorem c_X9_names_25 (l : Launch) {D : va_G} {q : Nat → ClassId} (w : wT) (sz : Nat) (wh : Int32) : Met l yX9_names wsX9_names (rmz 1 22) (va_Pc [.int 25, .int wh] (rPre D q w sz)) (va_Qi (fun (r : Int32) (u : Unit) => r = if wh = 0 then 1 else if wh = 1 then 1 else 1) (fun (u : Unit) tt => rPo D (rA w sz) w tt) (rA w sz)) 0 0 (rA w sz) := by
  refine r_start (cc := cX9_names) (maxL := 6) (ret := (some .int)) (by decide) rfl (Nat.le_of_ble_eq_true rfl) ?_
  intro p e s m below meth c ls hC hr hlk hnm hsz hw hl
  have hx := hC.1
  have hb := hC.2.1
  have hl : lv_has ls 6 [(0, .int 25), (1, .int wh)] := hl
  refine lv_iconst (v := 0) hx hb dX9_names_0 (by decide) ?_
  refine lv_istore_n (lv' := [(2, .int 0), (0, .int 25), (1, .int wh)]) hx hb dX9_names_1 rfl hl (by decide) rfl (fun ls hl => ?_)
  refine lv_iconst (v := 0) hx hb dX9_names_2 (by decide) ?_
  refine lv_istore_n (lv' := [(3, .int 0), (2, .int 0), (0, .int 25), (1, .int wh)]) hx hb dX9_names_3 rfl hl (by decide) rfl (fun ls hl => ?_)
  refine lv_iconst (v := 0) hx hb dX9_names_4 (by decide) ?_
  refine lv_istore (lv' := [(4, .int 0), (3, .int 0), (2, .int 0), (0, .int 25), (1, .int wh)]) hx hb dX9_names_5 hl (by decide) rfl (fun ls hl => ?_)
  refine lv_iload_n hx hb dX9_names_7 rfl (lv_at hl 3 rfl) ?_
  refine lv_iconst (v := 1) hx hb dX9_names_8 (by decide) ?_
  refine lv_icmp_eq (tgt := 24) hx hb dX9_names_9 (by decide) (fun c_ => absurd c_ (by decide)) (fun _ => ?_)
  refine lv_iload_n hx hb dX9_names_12 rfl (lv_at hl 3 rfl) ?_
  refine lv_bipush (v := 72) hx hb dX9_names_13 (by decide) ?_
  refine lv_icmp_eq (tgt := 24) hx hb dX9_names_15 (by decide) (fun c_ => absurd c_ (by decide)) (fun _ => ?_)
  refine lv_iload_n hx hb dX9_names_18 rfl (lv_at hl 3 rfl) ?_
  refine lv_bipush (v := 73) hx hb dX9_names_19 (by decide) ?_
  refine lv_icmp_ne (tgt := 29) hx hb dX9_names_21 (by decide) (fun _ => ?_) (fun c_ => absurd c_ (by decide))
  refine lv_iload_n hx hb dX9_names_29 rfl (lv_at hl 3 rfl) ?_
  refine lv_iconst (v := 2) hx hb dX9_names_30 (by decide) ?_
  refine lv_icmp_ne (tgt := 39) hx hb dX9_names_31 (by decide) (fun _ => ?_) (fun c_ => absurd c_ (by decide))
  refine lv_iload_n hx hb dX9_names_39 rfl (lv_at hl 3 rfl) ?_
  refine lv_iconst (v := 3) hx hb dX9_names_40 (by decide) ?_
  refine lv_icmp_ne (tgt := 51) hx hb dX9_names_41 (by decide) (fun _ => ?_) (fun c_ => absurd c_ (by decide))
  refine lv_iload_n hx hb dX9_names_51 rfl (lv_at hl 3 rfl) ?_
  refine lv_iconst (v := 4) hx hb dX9_names_52 (by decide) ?_
  refine lv_bipush (v := 8) hx hb dX9_names_53 (by decide) ?_
  refine r_ki hw (r_runS (rest := []) hC hw (c_X9_isIn l _ _ 25 4 8) 3 gX9_names_X9_isIn rfl rfl rfl (by decide +kernel) ⟨Nat.le_of_ble_eq_true rfl, Nat.le_of_ble_eq_true rfl⟩ rfl hl.1 rfl (Nat.le_of_ble_eq_true rfl) dX9_names_55 ⟨Nat.le_of_ble_eq_true rfl, Nat.le_of_ble_eq_true rfl⟩) (fun r_2 u_3 H locs h_1 hw => ?_)
  rw [if_neg (by decide)] at h_1
  subst h_1
  refine lv_if_ne (tgt := 67) hx hb dX9_names_58 (by decide) (fun c_ => absurd (by decide) c_) (fun _ => ?_)
  refine lv_iload_n hx hb dX9_names_61 rfl (lv_at hl 3 rfl) ?_
  refine lv_bipush (v := 25) hx hb dX9_names_62 (by decide) ?_
  refine lv_icmp_ne (tgt := 77) hx hb dX9_names_64 (by decide) (fun c_ => absurd (by decide) c_) (fun _ => ?_)
  refine lv_iconst (v := 1) hx hb dX9_names_67 (by decide) ?_
  refine lv_istore_n (lv' := [(2, .int 1), (4, .int 0), (3, .int 0), (0, .int 25), (1, .int wh)]) hx hb dX9_names_68 rfl hl (by decide) rfl (fun ls hl => ?_)
  refine lv_iconst (v := 1) hx hb dX9_names_69 (by decide) ?_
  refine lv_istore_n (lv' := [(3, .int 1), (2, .int 1), (4, .int 0), (0, .int 25), (1, .int wh)]) hx hb dX9_names_70 rfl hl (by decide) rfl (fun ls hl => ?_)
  refine lv_iconst (v := 1) hx hb dX9_names_71 (by decide) ?_
  refine lv_istore (lv' := [(4, .int 1), (3, .int 1), (2, .int 1), (0, .int 25), (1, .int wh)]) hx hb dX9_names_72 hl (by decide) rfl (fun ls hl => ?_)
  refine lv_goto (tgt := 605) hx hb dX9_names_74 (by decide) ?_
  refine lv_iload_n hx hb dX9_names_605 rfl (lv_at hl 4 rfl) ?_
  refine lv_if_ne (tgt := 613) hx hb dX9_names_606 (by decide) (fun c_4 => ?_) (fun c_4 => ?_)
  · refine lv_iload_n hx hb dX9_names_613 rfl (lv_at hl 4 rfl) ?_
    refine lv_iconst (v := 1) hx hb dX9_names_614 (by decide) ?_
    refine lv_icmp_ne (tgt := 622) hx hb dX9_names_615 (by decide) (fun c_5 => ?_) (fun c_5 => ?_)
    · refine lv_iload hx hb dX9_names_622 (lv_at hl 0 rfl) ?_
      exact r_iret hC hr hlk hw () rfl ((if_neg c_4).trans (if_neg c_5)).symm (Nat.le_of_ble_eq_true rfl) (Nat.le_of_ble_eq_true rfl) dX9_names_624
    · refine lv_iload_n hx hb dX9_names_618 rfl (lv_at hl 1 rfl) ?_
      refine lv_goto (tgt := 624) hx hb dX9_names_619 (by decide) ?_
      exact r_iret hC hr hlk hw () rfl ((if_neg c_4).trans (if_pos c_5)).symm (Nat.le_of_ble_eq_true rfl) (Nat.le_of_ble_eq_true rfl) dX9_names_624
  · refine lv_iload_n hx hb dX9_names_609 rfl (lv_at hl 2 rfl) ?_
    refine lv_goto (tgt := 624) hx hb dX9_names_610 (by decide) ?_
    exact r_iret hC hr hlk hw () rfl (if_pos c_4).symm (Nat.le_of_ble_eq_true rfl) (Nat.le_of_ble_eq_true rfl) dX9_names_624

set_option maxHeartbeats 4000000 in
set_option maxRecDepth 100000 in
theorem c_X9_names_26 (l : Launch) {D : va_G} {q : Nat → ClassId} (w : wT) (sz : Nat) (wh : Int32) : Met l yX9_names wsX9_names (rmz 1 22) (va_Pc [.int 26, .int wh] (rPre D q w sz)) (va_Qi (fun (r : Int32) (u : Unit) => r = if wh = 0 then 1 else if wh = 1 then 4 else 4) (fun (u : Unit) tt => rPo D (rA w sz) w tt) (rA w sz)) 0 0 (rA w sz) := by
  refine r_start (cc := cX9_names) (maxL := 6) (ret := (some .int)) (by decide) rfl (Nat.le_of_ble_eq_true rfl) ?_
  intro p e s m below meth c ls hC hr hlk hnm hsz hw hl
  have hx := hC.1
  have hb := hC.2.1
  have hl : lv_has ls 6 [(0, .int 26), (1, .int wh)] := hl
  refine lv_iconst (v := 0) hx hb dX9_names_0 (by decide) ?_
  refine lv_istore_n (lv' := [(2, .int 0), (0, .int 26), (1, .int wh)]) hx hb dX9_names_1 rfl hl (by decide) rfl (fun ls hl => ?_)
  refine lv_iconst (v := 0) hx hb dX9_names_2 (by decide) ?_
  refine lv_istore_n (lv' := [(3, .int 0), (2, .int 0), (0, .int 26), (1, .int wh)]) hx hb dX9_names_3 rfl hl (by decide) rfl (fun ls hl => ?_)
  refine lv_iconst (v := 0) hx hb dX9_names_4 (by decide) ?_
  refine lv_istore (lv' := [(4, .int 0), (3, .int 0), (2, .int 0), (0, .int 26), (1, .int wh)]) hx hb dX9_names_5 hl (by decide) rfl (fun ls hl => ?_)
  refine lv_iload_n hx hb dX9_names_7 rfl (lv_at hl 3 rfl) ?_
  refine lv_iconst (v := 1) hx hb dX9_names_8 (by decide) ?_
  refine lv_icmp_eq (tgt := 24) hx hb dX9_names_9 (by decide) (fun c_ => absurd c_ (by decide)) (fun _ => ?_)
  refine lv_iload_n hx hb dX9_names_12 rfl (lv_at hl 3 rfl) ?_
  refine lv_bipush (v := 72) hx hb dX9_names_13 (by decide) ?_
  refine lv_icmp_eq (tgt := 24) hx hb dX9_names_15 (by decide) (fun c_ => absurd c_ (by decide)) (fun _ => ?_)
  refine lv_iload_n hx hb dX9_names_18 rfl (lv_at hl 3 rfl) ?_
  refine lv_bipush (v := 73) hx hb dX9_names_19 (by decide) ?_
  refine lv_icmp_ne (tgt := 29) hx hb dX9_names_21 (by decide) (fun _ => ?_) (fun c_ => absurd c_ (by decide))
  refine lv_iload_n hx hb dX9_names_29 rfl (lv_at hl 3 rfl) ?_
  refine lv_iconst (v := 2) hx hb dX9_names_30 (by decide) ?_
  refine lv_icmp_ne (tgt := 39) hx hb dX9_names_31 (by decide) (fun _ => ?_) (fun c_ => absurd c_ (by decide))
  refine lv_iload_n hx hb dX9_names_39 rfl (lv_at hl 3 rfl) ?_
  refine lv_iconst (v := 3) hx hb dX9_names_40 (by decide) ?_
  refine lv_icmp_ne (tgt := 51) hx hb dX9_names_41 (by decide) (fun _ => ?_) (fun c_ => absurd c_ (by decide))
  refine lv_iload_n hx hb dX9_names_51 rfl (lv_at hl 3 rfl) ?_
  refine lv_iconst (v := 4) hx hb dX9_names_52 (by decide) ?_
  refine lv_bipush (v := 8) hx hb dX9_names_53 (by decide) ?_
  refine r_ki hw (r_runS (rest := []) hC hw (c_X9_isIn l _ _ 26 4 8) 3 gX9_names_X9_isIn rfl rfl rfl (by decide +kernel) ⟨Nat.le_of_ble_eq_true rfl, Nat.le_of_ble_eq_true rfl⟩ rfl hl.1 rfl (Nat.le_of_ble_eq_true rfl) dX9_names_55 ⟨Nat.le_of_ble_eq_true rfl, Nat.le_of_ble_eq_true rfl⟩) (fun r_2 u_3 H locs h_1 hw => ?_)
  rw [if_neg (by decide)] at h_1
  subst h_1
  refine lv_if_ne (tgt := 67) hx hb dX9_names_58 (by decide) (fun c_ => absurd (by decide) c_) (fun _ => ?_)
  refine lv_iload_n hx hb dX9_names_61 rfl (lv_at hl 3 rfl) ?_
  refine lv_bipush (v := 25) hx hb dX9_names_62 (by decide) ?_
  refine lv_icmp_ne (tgt := 77) hx hb dX9_names_64 (by decide) (fun _ => ?_) (fun c_ => absurd c_ (by decide))
  refine lv_iload_n hx hb dX9_names_77 rfl (lv_at hl 3 rfl) ?_
  refine lv_bipush (v := 9) hx hb dX9_names_78 (by decide) ?_
  refine lv_bipush (v := 12) hx hb dX9_names_80 (by decide) ?_
  refine r_ki hw (r_runS (rest := []) hC hw (c_X9_isIn l _ _ 26 9 12) 3 gX9_names_X9_isIn rfl rfl rfl (by decide +kernel) ⟨Nat.le_of_ble_eq_true rfl, Nat.le_of_ble_eq_true rfl⟩ rfl hl.1 rfl (Nat.le_of_ble_eq_true rfl) dX9_names_82 ⟨Nat.le_of_ble_eq_true rfl, Nat.le_of_ble_eq_true rfl⟩) (fun r_5 u_6 H locs h_4 hw => ?_)
  rw [if_neg (by decide)] at h_4
  subst h_4
  refine lv_if_eq (tgt := 98) hx hb dX9_names_85 (by decide) (fun _ => ?_) (fun c_ => absurd (by decide) c_)
  refine lv_iload_n hx hb dX9_names_98 rfl (lv_at hl 3 rfl) ?_
  refine lv_bipush (v := 13) hx hb dX9_names_99 (by decide) ?_
  refine lv_bipush (v := 24) hx hb dX9_names_101 (by decide) ?_
  refine r_ki hw (r_runS (rest := []) hC hw (c_X9_isIn l _ _ 26 13 24) 3 gX9_names_X9_isIn rfl rfl rfl (by decide +kernel) ⟨Nat.le_of_ble_eq_true rfl, Nat.le_of_ble_eq_true rfl⟩ rfl hl.1 rfl (Nat.le_of_ble_eq_true rfl) dX9_names_103 ⟨Nat.le_of_ble_eq_true rfl, Nat.le_of_ble_eq_true rfl⟩) (fun r_8 u_9 H locs h_7 hw => ?_)
  rw [if_neg (by decide)] at h_7
  subst h_7
  refine lv_if_ne (tgt := 115) hx hb dX9_names_106 (by decide) (fun c_ => absurd (by decide) c_) (fun _ => ?_)
  refine lv_iload_n hx hb dX9_names_109 rfl (lv_at hl 3 rfl) ?_
  refine lv_bipush (v := 26) hx hb dX9_names_110 (by decide) ?_
  refine lv_icmp_ne (tgt := 270) hx hb dX9_names_112 (by decide) (fun c_ => absurd (by decide) c_) (fun _ => ?_)
  refine lv_iload_n hx hb dX9_names_115 rfl (lv_at hl 3 rfl) ?_
  refine lv_bipush (v := 13) hx hb dX9_names_116 (by decide) ?_
  refine lv_icmp_eq (tgt := 127) hx hb dX9_names_118 (by decide) (fun c_ => absurd c_ (by decide)) (fun _ => ?_)
  refine lv_iload_n hx hb dX9_names_121 rfl (lv_at hl 3 rfl) ?_
  refine lv_bipush (v := 17) hx hb dX9_names_122 (by decide) ?_
  refine lv_icmp_ne (tgt := 131) hx hb dX9_names_124 (by decide) (fun _ => ?_) (fun c_ => absurd c_ (by decide))
  refine lv_iload_n hx hb dX9_names_131 rfl (lv_at hl 3 rfl) ?_
  refine lv_bipush (v := 14) hx hb dX9_names_132 (by decide) ?_
  refine lv_icmp_eq (tgt := 149) hx hb dX9_names_134 (by decide) (fun c_ => absurd c_ (by decide)) (fun _ => ?_)
  refine lv_iload_n hx hb dX9_names_137 rfl (lv_at hl 3 rfl) ?_
  refine lv_bipush (v := 18) hx hb dX9_names_138 (by decide) ?_
  refine lv_icmp_eq (tgt := 149) hx hb dX9_names_140 (by decide) (fun c_ => absurd c_ (by decide)) (fun _ => ?_)
  refine lv_iload_n hx hb dX9_names_143 rfl (lv_at hl 3 rfl) ?_
  refine lv_bipush (v := 26) hx hb dX9_names_144 (by decide) ?_
  refine lv_icmp_ne (tgt := 153) hx hb dX9_names_146 (by decide) (fun c_ => absurd (by decide) c_) (fun _ => ?_)
  refine lv_iconst (v := 1) hx hb dX9_names_149 (by decide) ?_
  refine lv_goto (tgt := 182) hx hb dX9_names_150 (by decide) ?_
  refine lv_istore_n (lv' := [(2, .int 1), (4, .int 0), (3, .int 0), (0, .int 26), (1, .int wh)]) hx hb dX9_names_182 rfl hl (by decide) rfl (fun ls hl => ?_)
  refine lv_iload_n hx hb dX9_names_183 rfl (lv_at hl 3 rfl) ?_
  refine lv_bipush (v := 13) hx hb dX9_names_184 (by decide) ?_
  refine lv_icmp_ne (tgt := 193) hx hb dX9_names_186 (by decide) (fun _ => ?_) (fun c_ => absurd c_ (by decide))
  refine lv_iload_n hx hb dX9_names_193 rfl (lv_at hl 3 rfl) ?_
  refine lv_bipush (v := 14) hx hb dX9_names_194 (by decide) ?_
  refine lv_bipush (v := 16) hx hb dX9_names_196 (by decide) ?_
  refine r_ki hw (r_runS (rest := []) hC hw (c_X9_isIn l _ _ 26 14 16) 3 gX9_names_X9_isIn rfl rfl rfl (by decide +kernel) ⟨Nat.le_of_ble_eq_true rfl, Nat.le_of_ble_eq_true rfl⟩ rfl hl.1 rfl (Nat.le_of_ble_eq_true rfl) dX9_names_198 ⟨Nat.le_of_ble_eq_true rfl, Nat.le_of_ble_eq_true rfl⟩) (fun r_11 u_12 H locs h_10 hw => ?_)
  rw [if_neg (by decide)] at h_10
  subst h_10
  refine lv_if_eq (tgt := 208) hx hb dX9_names_201 (by decide) (fun _ => ?_) (fun c_ => absurd (by decide) c_)
  refine lv_iload_n hx hb dX9_names_208 rfl (lv_at hl 3 rfl) ?_
  refine lv_bipush (v := 17) hx hb dX9_names_209 (by decide) ?_
  refine lv_icmp_eq (tgt := 232) hx hb dX9_names_211 (by decide) (fun c_ => absurd c_ (by decide)) (fun _ => ?_)
  refine lv_iload_n hx hb dX9_names_214 rfl (lv_at hl 3 rfl) ?_
  refine lv_bipush (v := 19) hx hb dX9_names_215 (by decide) ?_
  refine lv_icmp_eq (tgt := 232) hx hb dX9_names_217 (by decide) (fun c_ => absurd c_ (by decide)) (fun _ => ?_)
  refine lv_iload_n hx hb dX9_names_220 rfl (lv_at hl 3 rfl) ?_
  refine lv_bipush (v := 21) hx hb dX9_names_221 (by decide) ?_
  refine lv_icmp_eq (tgt := 232) hx hb dX9_names_223 (by decide) (fun c_ => absurd c_ (by decide)) (fun _ => ?_)
  refine lv_iload_n hx hb dX9_names_226 rfl (lv_at hl 3 rfl) ?_
  refine lv_bipush (v := 23) hx hb dX9_names_227 (by decide) ?_
  refine lv_icmp_ne (tgt := 236) hx hb dX9_names_229 (by decide) (fun _ => ?_) (fun c_ => absurd c_ (by decide))
  refine lv_iconst (v := 4) hx hb dX9_names_236 (by decide) ?_
  refine lv_istore_n (lv' := [(3, .int 4), (2, .int 1), (4, .int 0), (0, .int 26), (1, .int wh)]) hx hb dX9_names_237 rfl hl (by decide) rfl (fun ls hl => ?_)
  refine lv_iload_n hx hb dX9_names_238 rfl (lv_at hl 3 rfl) ?_
  refine lv_bipush (v := 23) hx hb dX9_names_239 (by decide) ?_
  refine lv_icmp_ne (tgt := 248) hx hb dX9_names_241 (by decide) (fun _ => ?_) (fun c_ => absurd c_ (by decide))
  refine lv_iload_n hx hb dX9_names_248 rfl (lv_at hl 3 rfl) ?_
  refine lv_bipush (v := 24) hx hb dX9_names_249 (by decide) ?_
  refine lv_icmp_eq (tgt := 260) hx hb dX9_names_251 (by decide) (fun c_ => absurd c_ (by decide)) (fun _ => ?_)
  refine lv_iload_n hx hb dX9_names_254 rfl (lv_at hl 3 rfl) ?_
  refine lv_bipush (v := 26) hx hb dX9_names_255 (by decide) ?_
  refine lv_icmp_ne (tgt := 264) hx hb dX9_names_257 (by decide) (fun c_ => absurd (by decide) c_) (fun _ => ?_)
  refine lv_iconst (v := 4) hx hb dX9_names_260 (by decide) ?_
  refine lv_goto (tgt := 265) hx hb dX9_names_261 (by decide) ?_
  refine lv_istore (lv' := [(4, .int 4), (3, .int 4), (2, .int 1), (0, .int 26), (1, .int wh)]) hx hb dX9_names_265 hl (by decide) rfl (fun ls hl => ?_)
  refine lv_goto (tgt := 605) hx hb dX9_names_267 (by decide) ?_
  refine lv_iload_n hx hb dX9_names_605 rfl (lv_at hl 4 rfl) ?_
  refine lv_if_ne (tgt := 613) hx hb dX9_names_606 (by decide) (fun c_13 => ?_) (fun c_13 => ?_)
  · refine lv_iload_n hx hb dX9_names_613 rfl (lv_at hl 4 rfl) ?_
    refine lv_iconst (v := 1) hx hb dX9_names_614 (by decide) ?_
    refine lv_icmp_ne (tgt := 622) hx hb dX9_names_615 (by decide) (fun c_14 => ?_) (fun c_14 => ?_)
    · refine lv_iload hx hb dX9_names_622 (lv_at hl 0 rfl) ?_
      exact r_iret hC hr hlk hw () rfl ((if_neg c_13).trans (if_neg c_14)).symm (Nat.le_of_ble_eq_true rfl) (Nat.le_of_ble_eq_true rfl) dX9_names_624
    · refine lv_iload_n hx hb dX9_names_618 rfl (lv_at hl 1 rfl) ?_
      refine lv_goto (tgt := 624) hx hb dX9_names_619 (by decide) ?_
      exact r_iret hC hr hlk hw () rfl ((if_neg c_13).trans (if_pos c_14)).symm (Nat.le_of_ble_eq_true rfl) (Nat.le_of_ble_eq_true rfl) dX9_names_624
  · refine lv_iload_n hx hb dX9_names_609 rfl (lv_at hl 2 rfl) ?_
    refine lv_goto (tgt := 624) hx hb dX9_names_610 (by decide) ?_
    exact r_iret hC hr hlk hw () rfl (if_pos c_13).symm (Nat.le_of_ble_eq_true rfl) (Nat.le_of_ble_eq_true rfl) dX9_names_624

set_option maxHeartbeats 4000000 in
set_option maxRecDepth 100000 in
theorem c_X9_names_27 (l : Launch) {D : va_G} {q : Nat → ClassId} (w : wT) (sz : Nat) (wh : Int32) : Met l yX9_names wsX9_names (rmz 1 22) (va_Pc [.int 27, .int wh] (rPre D q w sz)) (va_Qi (fun (r : Int32) (u : Unit) => r = if wh = 0 then 6 else if wh = 1 then 0 else 0) (fun (u : Unit) tt => rPo D (rA w sz) w tt) (rA w sz)) 0 0 (rA w sz) := by
  refine r_start (cc := cX9_names) (maxL := 6) (ret := (some .int)) (by decide) rfl (Nat.le_of_ble_eq_true rfl) ?_
  intro p e s m below meth c ls hC hr hlk hnm hsz hw hl
  have hx := hC.1
  have hb := hC.2.1
  have hl : lv_has ls 6 [(0, .int 27), (1, .int wh)] := hl
  refine lv_iconst (v := 0) hx hb dX9_names_0 (by decide) ?_
  refine lv_istore_n (lv' := [(2, .int 0), (0, .int 27), (1, .int wh)]) hx hb dX9_names_1 rfl hl (by decide) rfl (fun ls hl => ?_)
  refine lv_iconst (v := 0) hx hb dX9_names_2 (by decide) ?_
  refine lv_istore_n (lv' := [(3, .int 0), (2, .int 0), (0, .int 27), (1, .int wh)]) hx hb dX9_names_3 rfl hl (by decide) rfl (fun ls hl => ?_)
  refine lv_iconst (v := 0) hx hb dX9_names_4 (by decide) ?_
  refine lv_istore (lv' := [(4, .int 0), (3, .int 0), (2, .int 0), (0, .int 27), (1, .int wh)]) hx hb dX9_names_5 hl (by decide) rfl (fun ls hl => ?_)
  refine lv_iload_n hx hb dX9_names_7 rfl (lv_at hl 3 rfl) ?_
  refine lv_iconst (v := 1) hx hb dX9_names_8 (by decide) ?_
  refine lv_icmp_eq (tgt := 24) hx hb dX9_names_9 (by decide) (fun c_ => absurd c_ (by decide)) (fun _ => ?_)
  refine lv_iload_n hx hb dX9_names_12 rfl (lv_at hl 3 rfl) ?_
  refine lv_bipush (v := 72) hx hb dX9_names_13 (by decide) ?_
  refine lv_icmp_eq (tgt := 24) hx hb dX9_names_15 (by decide) (fun c_ => absurd c_ (by decide)) (fun _ => ?_)
  refine lv_iload_n hx hb dX9_names_18 rfl (lv_at hl 3 rfl) ?_
  refine lv_bipush (v := 73) hx hb dX9_names_19 (by decide) ?_
  refine lv_icmp_ne (tgt := 29) hx hb dX9_names_21 (by decide) (fun _ => ?_) (fun c_ => absurd c_ (by decide))
  refine lv_iload_n hx hb dX9_names_29 rfl (lv_at hl 3 rfl) ?_
  refine lv_iconst (v := 2) hx hb dX9_names_30 (by decide) ?_
  refine lv_icmp_ne (tgt := 39) hx hb dX9_names_31 (by decide) (fun _ => ?_) (fun c_ => absurd c_ (by decide))
  refine lv_iload_n hx hb dX9_names_39 rfl (lv_at hl 3 rfl) ?_
  refine lv_iconst (v := 3) hx hb dX9_names_40 (by decide) ?_
  refine lv_icmp_ne (tgt := 51) hx hb dX9_names_41 (by decide) (fun _ => ?_) (fun c_ => absurd c_ (by decide))
  refine lv_iload_n hx hb dX9_names_51 rfl (lv_at hl 3 rfl) ?_
  refine lv_iconst (v := 4) hx hb dX9_names_52 (by decide) ?_
  refine lv_bipush (v := 8) hx hb dX9_names_53 (by decide) ?_
  refine r_ki hw (r_runS (rest := []) hC hw (c_X9_isIn l _ _ 27 4 8) 3 gX9_names_X9_isIn rfl rfl rfl (by decide +kernel) ⟨Nat.le_of_ble_eq_true rfl, Nat.le_of_ble_eq_true rfl⟩ rfl hl.1 rfl (Nat.le_of_ble_eq_true rfl) dX9_names_55 ⟨Nat.le_of_ble_eq_true rfl, Nat.le_of_ble_eq_true rfl⟩) (fun r_2 u_3 H locs h_1 hw => ?_)
  rw [if_neg (by decide)] at h_1
  subst h_1
  refine lv_if_ne (tgt := 67) hx hb dX9_names_58 (by decide) (fun c_ => absurd (by decide) c_) (fun _ => ?_)
  refine lv_iload_n hx hb dX9_names_61 rfl (lv_at hl 3 rfl) ?_
  refine lv_bipush (v := 25) hx hb dX9_names_62 (by decide) ?_
  refine lv_icmp_ne (tgt := 77) hx hb dX9_names_64 (by decide) (fun _ => ?_) (fun c_ => absurd c_ (by decide))
  refine lv_iload_n hx hb dX9_names_77 rfl (lv_at hl 3 rfl) ?_
  refine lv_bipush (v := 9) hx hb dX9_names_78 (by decide) ?_
  refine lv_bipush (v := 12) hx hb dX9_names_80 (by decide) ?_
  refine r_ki hw (r_runS (rest := []) hC hw (c_X9_isIn l _ _ 27 9 12) 3 gX9_names_X9_isIn rfl rfl rfl (by decide +kernel) ⟨Nat.le_of_ble_eq_true rfl, Nat.le_of_ble_eq_true rfl⟩ rfl hl.1 rfl (Nat.le_of_ble_eq_true rfl) dX9_names_82 ⟨Nat.le_of_ble_eq_true rfl, Nat.le_of_ble_eq_true rfl⟩) (fun r_5 u_6 H locs h_4 hw => ?_)
  rw [if_neg (by decide)] at h_4
  subst h_4
  refine lv_if_eq (tgt := 98) hx hb dX9_names_85 (by decide) (fun _ => ?_) (fun c_ => absurd (by decide) c_)
  refine lv_iload_n hx hb dX9_names_98 rfl (lv_at hl 3 rfl) ?_
  refine lv_bipush (v := 13) hx hb dX9_names_99 (by decide) ?_
  refine lv_bipush (v := 24) hx hb dX9_names_101 (by decide) ?_
  refine r_ki hw (r_runS (rest := []) hC hw (c_X9_isIn l _ _ 27 13 24) 3 gX9_names_X9_isIn rfl rfl rfl (by decide +kernel) ⟨Nat.le_of_ble_eq_true rfl, Nat.le_of_ble_eq_true rfl⟩ rfl hl.1 rfl (Nat.le_of_ble_eq_true rfl) dX9_names_103 ⟨Nat.le_of_ble_eq_true rfl, Nat.le_of_ble_eq_true rfl⟩) (fun r_8 u_9 H locs h_7 hw => ?_)
  rw [if_neg (by decide)] at h_7
  subst h_7
  refine lv_if_ne (tgt := 115) hx hb dX9_names_106 (by decide) (fun c_ => absurd (by decide) c_) (fun _ => ?_)
  refine lv_iload_n hx hb dX9_names_109 rfl (lv_at hl 3 rfl) ?_
  refine lv_bipush (v := 26) hx hb dX9_names_110 (by decide) ?_
  refine lv_icmp_ne (tgt := 270) hx hb dX9_names_112 (by decide) (fun _ => ?_) (fun c_ => absurd c_ (by decide))
  refine lv_iload_n hx hb dX9_names_270 rfl (lv_at hl 3 rfl) ?_
  refine lv_bipush (v := 27) hx hb dX9_names_271 (by decide) ?_
  refine lv_icmp_eq (tgt := 282) hx hb dX9_names_273 (by decide) (fun _ => ?_) (fun c_ => absurd (by decide) c_)
  refine lv_bipush (v := 6) hx hb dX9_names_282 (by decide) ?_
  refine lv_istore_n (lv' := [(2, .int 6), (4, .int 0), (3, .int 0), (0, .int 27), (1, .int wh)]) hx hb dX9_names_284 rfl hl (by decide) rfl (fun ls hl => ?_)
  refine lv_goto (tgt := 605) hx hb dX9_names_285 (by decide) ?_
  refine lv_iload_n hx hb dX9_names_605 rfl (lv_at hl 4 rfl) ?_
  refine lv_if_ne (tgt := 613) hx hb dX9_names_606 (by decide) (fun c_10 => ?_) (fun c_10 => ?_)
  · refine lv_iload_n hx hb dX9_names_613 rfl (lv_at hl 4 rfl) ?_
    refine lv_iconst (v := 1) hx hb dX9_names_614 (by decide) ?_
    refine lv_icmp_ne (tgt := 622) hx hb dX9_names_615 (by decide) (fun c_11 => ?_) (fun c_11 => ?_)
    · refine lv_iload hx hb dX9_names_622 (lv_at hl 1 rfl) ?_
      exact r_iret hC hr hlk hw () rfl ((if_neg c_10).trans (if_neg c_11)).symm (Nat.le_of_ble_eq_true rfl) (Nat.le_of_ble_eq_true rfl) dX9_names_624
    · refine lv_iload_n hx hb dX9_names_618 rfl (lv_at hl 2 rfl) ?_
      refine lv_goto (tgt := 624) hx hb dX9_names_619 (by decide) ?_
      exact r_iret hC hr hlk hw () rfl ((if_neg c_10).trans (if_pos c_11)).symm (Nat.le_of_ble_eq_true rfl) (Nat.le_of_ble_eq_true rfl) dX9_names_624
  · refine lv_iload_n hx hb dX9_names_609 rfl (lv_at hl 0 rfl) ?_
    refine lv_goto (tgt := 624) hx hb dX9_names_610 (by decide) ?_
    exact r_iret hC hr hlk hw () rfl (if_pos c_10).symm (Nat.le_of_ble_eq_true rfl) (Nat.le_of_ble_eq_true rfl) dX9_names_624

set_option maxHeartbeats 4000000 in
set_option maxRecDepth 100000 in
theorem c_X9_names_28 (l : Launch) {D : va_G} {q : Nat → ClassId} (w : wT) (sz : Nat) (wh : Int32) : Met l yX9_names wsX9_names (rmz 1 22) (va_Pc [.int 28, .int wh] (rPre D q w sz)) (va_Qi (fun (r : Int32) (u : Unit) => r = if wh = 0 then 1 else if wh = 1 then 6 else 0) (fun (u : Unit) tt => rPo D (rA w sz) w tt) (rA w sz)) 0 0 (rA w sz) := by
  refine r_start (cc := cX9_names) (maxL := 6) (ret := (some .int)) (by decide) rfl (Nat.le_of_ble_eq_true rfl) ?_
  intro p e s m below meth c ls hC hr hlk hnm hsz hw hl
  have hx := hC.1
  have hb := hC.2.1
  have hl : lv_has ls 6 [(0, .int 28), (1, .int wh)] := hl
  refine lv_iconst (v := 0) hx hb dX9_names_0 (by decide) ?_
  refine lv_istore_n (lv' := [(2, .int 0), (0, .int 28), (1, .int wh)]) hx hb dX9_names_1 rfl hl (by decide) rfl (fun ls hl => ?_)
  refine lv_iconst (v := 0) hx hb dX9_names_2 (by decide) ?_
  refine lv_istore_n (lv' := [(3, .int 0), (2, .int 0), (0, .int 28), (1, .int wh)]) hx hb dX9_names_3 rfl hl (by decide) rfl (fun ls hl => ?_)
  refine lv_iconst (v := 0) hx hb dX9_names_4 (by decide) ?_
  refine lv_istore (lv' := [(4, .int 0), (3, .int 0), (2, .int 0), (0, .int 28), (1, .int wh)]) hx hb dX9_names_5 hl (by decide) rfl (fun ls hl => ?_)
  refine lv_iload_n hx hb dX9_names_7 rfl (lv_at hl 3 rfl) ?_
  refine lv_iconst (v := 1) hx hb dX9_names_8 (by decide) ?_
  refine lv_icmp_eq (tgt := 24) hx hb dX9_names_9 (by decide) (fun c_ => absurd c_ (by decide)) (fun _ => ?_)
  refine lv_iload_n hx hb dX9_names_12 rfl (lv_at hl 3 rfl) ?_
  refine lv_bipush (v := 72) hx hb dX9_names_13 (by decide) ?_
  refine lv_icmp_eq (tgt := 24) hx hb dX9_names_15 (by decide) (fun c_ => absurd c_ (by decide)) (fun _ => ?_)
  refine lv_iload_n hx hb dX9_names_18 rfl (lv_at hl 3 rfl) ?_
  refine lv_bipush (v := 73) hx hb dX9_names_19 (by decide) ?_
  refine lv_icmp_ne (tgt := 29) hx hb dX9_names_21 (by decide) (fun _ => ?_) (fun c_ => absurd c_ (by decide))
  refine lv_iload_n hx hb dX9_names_29 rfl (lv_at hl 3 rfl) ?_
  refine lv_iconst (v := 2) hx hb dX9_names_30 (by decide) ?_
  refine lv_icmp_ne (tgt := 39) hx hb dX9_names_31 (by decide) (fun _ => ?_) (fun c_ => absurd c_ (by decide))
  refine lv_iload_n hx hb dX9_names_39 rfl (lv_at hl 3 rfl) ?_
  refine lv_iconst (v := 3) hx hb dX9_names_40 (by decide) ?_
  refine lv_icmp_ne (tgt := 51) hx hb dX9_names_41 (by decide) (fun _ => ?_) (fun c_ => absurd c_ (by decide))
  refine lv_iload_n hx hb dX9_names_51 rfl (lv_at hl 3 rfl) ?_
  refine lv_iconst (v := 4) hx hb dX9_names_52 (by decide) ?_
  refine lv_bipush (v := 8) hx hb dX9_names_53 (by decide) ?_
  refine r_ki hw (r_runS (rest := []) hC hw (c_X9_isIn l _ _ 28 4 8) 3 gX9_names_X9_isIn rfl rfl rfl (by decide +kernel) ⟨Nat.le_of_ble_eq_true rfl, Nat.le_of_ble_eq_true rfl⟩ rfl hl.1 rfl (Nat.le_of_ble_eq_true rfl) dX9_names_55 ⟨Nat.le_of_ble_eq_true rfl, Nat.le_of_ble_eq_true rfl⟩) (fun r_2 u_3 H locs h_1 hw => ?_)
  rw [if_neg (by decide)] at h_1
  subst h_1
  refine lv_if_ne (tgt := 67) hx hb dX9_names_58 (by decide) (fun c_ => absurd (by decide) c_) (fun _ => ?_)
  refine lv_iload_n hx hb dX9_names_61 rfl (lv_at hl 3 rfl) ?_
  refine lv_bipush (v := 25) hx hb dX9_names_62 (by decide) ?_
  refine lv_icmp_ne (tgt := 77) hx hb dX9_names_64 (by decide) (fun _ => ?_) (fun c_ => absurd c_ (by decide))
  refine lv_iload_n hx hb dX9_names_77 rfl (lv_at hl 3 rfl) ?_
  refine lv_bipush (v := 9) hx hb dX9_names_78 (by decide) ?_
  refine lv_bipush (v := 12) hx hb dX9_names_80 (by decide) ?_
  refine r_ki hw (r_runS (rest := []) hC hw (c_X9_isIn l _ _ 28 9 12) 3 gX9_names_X9_isIn rfl rfl rfl (by decide +kernel) ⟨Nat.le_of_ble_eq_true rfl, Nat.le_of_ble_eq_true rfl⟩ rfl hl.1 rfl (Nat.le_of_ble_eq_true rfl) dX9_names_82 ⟨Nat.le_of_ble_eq_true rfl, Nat.le_of_ble_eq_true rfl⟩) (fun r_5 u_6 H locs h_4 hw => ?_)
  rw [if_neg (by decide)] at h_4
  subst h_4
  refine lv_if_eq (tgt := 98) hx hb dX9_names_85 (by decide) (fun _ => ?_) (fun c_ => absurd (by decide) c_)
  refine lv_iload_n hx hb dX9_names_98 rfl (lv_at hl 3 rfl) ?_
  refine lv_bipush (v := 13) hx hb dX9_names_99 (by decide) ?_
  refine lv_bipush (v := 24) hx hb dX9_names_101 (by decide) ?_
  refine r_ki hw (r_runS (rest := []) hC hw (c_X9_isIn l _ _ 28 13 24) 3 gX9_names_X9_isIn rfl rfl rfl (by decide +kernel) ⟨Nat.le_of_ble_eq_true rfl, Nat.le_of_ble_eq_true rfl⟩ rfl hl.1 rfl (Nat.le_of_ble_eq_true rfl) dX9_names_103 ⟨Nat.le_of_ble_eq_true rfl, Nat.le_of_ble_eq_true rfl⟩) (fun r_8 u_9 H locs h_7 hw => ?_)
  rw [if_neg (by decide)] at h_7
  subst h_7
  refine lv_if_ne (tgt := 115) hx hb dX9_names_106 (by decide) (fun c_ => absurd (by decide) c_) (fun _ => ?_)
  refine lv_iload_n hx hb dX9_names_109 rfl (lv_at hl 3 rfl) ?_
  refine lv_bipush (v := 26) hx hb dX9_names_110 (by decide) ?_
  refine lv_icmp_ne (tgt := 270) hx hb dX9_names_112 (by decide) (fun _ => ?_) (fun c_ => absurd c_ (by decide))
  refine lv_iload_n hx hb dX9_names_270 rfl (lv_at hl 3 rfl) ?_
  refine lv_bipush (v := 27) hx hb dX9_names_271 (by decide) ?_
  refine lv_icmp_eq (tgt := 282) hx hb dX9_names_273 (by decide) (fun c_ => absurd c_ (by decide)) (fun _ => ?_)
  refine lv_iload_n hx hb dX9_names_276 rfl (lv_at hl 3 rfl) ?_
  refine lv_bipush (v := 29) hx hb dX9_names_277 (by decide) ?_
  refine lv_icmp_ne (tgt := 288) hx hb dX9_names_279 (by decide) (fun _ => ?_) (fun c_ => absurd c_ (by decide))
  refine lv_iload_n hx hb dX9_names_288 rfl (lv_at hl 3 rfl) ?_
  refine lv_bipush (v := 28) hx hb dX9_names_289 (by decide) ?_
  refine lv_icmp_ne (tgt := 302) hx hb dX9_names_291 (by decide) (fun c_ => absurd (by decide) c_) (fun _ => ?_)
  refine lv_iconst (v := 1) hx hb dX9_names_294 (by decide) ?_
  refine lv_istore_n (lv' := [(2, .int 1), (4, .int 0), (3, .int 0), (0, .int 28), (1, .int wh)]) hx hb dX9_names_295 rfl hl (by decide) rfl (fun ls hl => ?_)
  refine lv_bipush (v := 6) hx hb dX9_names_296 (by decide) ?_
  refine lv_istore_n (lv' := [(3, .int 6), (2, .int 1), (4, .int 0), (0, .int 28), (1, .int wh)]) hx hb dX9_names_298 rfl hl (by decide) rfl (fun ls hl => ?_)
  refine lv_goto (tgt := 605) hx hb dX9_names_299 (by decide) ?_
  refine lv_iload_n hx hb dX9_names_605 rfl (lv_at hl 4 rfl) ?_
  refine lv_if_ne (tgt := 613) hx hb dX9_names_606 (by decide) (fun c_10 => ?_) (fun c_10 => ?_)
  · refine lv_iload_n hx hb dX9_names_613 rfl (lv_at hl 4 rfl) ?_
    refine lv_iconst (v := 1) hx hb dX9_names_614 (by decide) ?_
    refine lv_icmp_ne (tgt := 622) hx hb dX9_names_615 (by decide) (fun c_11 => ?_) (fun c_11 => ?_)
    · refine lv_iload hx hb dX9_names_622 (lv_at hl 2 rfl) ?_
      exact r_iret hC hr hlk hw () rfl ((if_neg c_10).trans (if_neg c_11)).symm (Nat.le_of_ble_eq_true rfl) (Nat.le_of_ble_eq_true rfl) dX9_names_624
    · refine lv_iload_n hx hb dX9_names_618 rfl (lv_at hl 0 rfl) ?_
      refine lv_goto (tgt := 624) hx hb dX9_names_619 (by decide) ?_
      exact r_iret hC hr hlk hw () rfl ((if_neg c_10).trans (if_pos c_11)).symm (Nat.le_of_ble_eq_true rfl) (Nat.le_of_ble_eq_true rfl) dX9_names_624
  · refine lv_iload_n hx hb dX9_names_609 rfl (lv_at hl 1 rfl) ?_
    refine lv_goto (tgt := 624) hx hb dX9_names_610 (by decide) ?_
    exact r_iret hC hr hlk hw () rfl (if_pos c_10).symm (Nat.le_of_ble_eq_true rfl) (Nat.le_of_ble_eq_true rfl) dX9_names_624

set_option maxHeartbeats 4000000 in
set_option maxRecDepth 100000 in
theorem c_X9_names_29 (l : Launch) {D : va_G} {q : Nat → ClassId} (w : wT) (sz : Nat) (wh : Int32) : Met l yX9_names wsX9_names (rmz 1 22) (va_Pc [.int 29, .int wh] (rPre D q w sz)) (va_Qi (fun (r : Int32) (u : Unit) => r = if wh = 0 then 6 else if wh = 1 then 0 else 0) (fun (u : Unit) tt => rPo D (rA w sz) w tt) (rA w sz)) 0 0 (rA w sz) := by
  refine r_start (cc := cX9_names) (maxL := 6) (ret := (some .int)) (by decide) rfl (Nat.le_of_ble_eq_true rfl) ?_
  intro p e s m below meth c ls hC hr hlk hnm hsz hw hl
  have hx := hC.1
  have hb := hC.2.1
  have hl : lv_has ls 6 [(0, .int 29), (1, .int wh)] := hl
  refine lv_iconst (v := 0) hx hb dX9_names_0 (by decide) ?_
  refine lv_istore_n (lv' := [(2, .int 0), (0, .int 29), (1, .int wh)]) hx hb dX9_names_1 rfl hl (by decide) rfl (fun ls hl => ?_)
  refine lv_iconst (v := 0) hx hb dX9_names_2 (by decide) ?_
  refine lv_istore_n (lv' := [(3, .int 0), (2, .int 0), (0, .int 29), (1, .int wh)]) hx hb dX9_names_3 rfl hl (by decide) rfl (fun ls hl => ?_)
  refine lv_iconst (v := 0) hx hb dX9_names_4 (by decide) ?_
  refine lv_istore (lv' := [(4, .int 0), (3, .int 0), (2, .int 0), (0, .int 29), (1, .int wh)]) hx hb dX9_names_5 hl (by decide) rfl (fun ls hl => ?_)
  refine lv_iload_n hx hb dX9_names_7 rfl (lv_at hl 3 rfl) ?_
  refine lv_iconst (v := 1) hx hb dX9_names_8 (by decide) ?_
  refine lv_icmp_eq (tgt := 24) hx hb dX9_names_9 (by decide) (fun c_ => absurd c_ (by decide)) (fun _ => ?_)
  refine lv_iload_n hx hb dX9_names_12 rfl (lv_at hl 3 rfl) ?_
  refine lv_bipush (v := 72) hx hb dX9_names_13 (by decide) ?_
  refine lv_icmp_eq (tgt := 24) hx hb dX9_names_15 (by decide) (fun c_ => absurd c_ (by decide)) (fun _ => ?_)
  refine lv_iload_n hx hb dX9_names_18 rfl (lv_at hl 3 rfl) ?_
  refine lv_bipush (v := 73) hx hb dX9_names_19 (by decide) ?_
  refine lv_icmp_ne (tgt := 29) hx hb dX9_names_21 (by decide) (fun _ => ?_) (fun c_ => absurd c_ (by decide))
  refine lv_iload_n hx hb dX9_names_29 rfl (lv_at hl 3 rfl) ?_
  refine lv_iconst (v := 2) hx hb dX9_names_30 (by decide) ?_
  refine lv_icmp_ne (tgt := 39) hx hb dX9_names_31 (by decide) (fun _ => ?_) (fun c_ => absurd c_ (by decide))
  refine lv_iload_n hx hb dX9_names_39 rfl (lv_at hl 3 rfl) ?_
  refine lv_iconst (v := 3) hx hb dX9_names_40 (by decide) ?_
  refine lv_icmp_ne (tgt := 51) hx hb dX9_names_41 (by decide) (fun _ => ?_) (fun c_ => absurd c_ (by decide))
  refine lv_iload_n hx hb dX9_names_51 rfl (lv_at hl 3 rfl) ?_
  refine lv_iconst (v := 4) hx hb dX9_names_52 (by decide) ?_
  refine lv_bipush (v := 8) hx hb dX9_names_53 (by decide) ?_
  refine r_ki hw (r_runS (rest := []) hC hw (c_X9_isIn l _ _ 29 4 8) 3 gX9_names_X9_isIn rfl rfl rfl (by decide +kernel) ⟨Nat.le_of_ble_eq_true rfl, Nat.le_of_ble_eq_true rfl⟩ rfl hl.1 rfl (Nat.le_of_ble_eq_true rfl) dX9_names_55 ⟨Nat.le_of_ble_eq_true rfl, Nat.le_of_ble_eq_true rfl⟩) (fun r_2 u_3 H locs h_1 hw => ?_)
  rw [if_neg (by decide)] at h_1
  subst h_1
  refine lv_if_ne (tgt := 67) hx hb dX9_names_58 (by decide) (fun c_ => absurd (by decide) c_) (fun _ => ?_)
  refine lv_iload_n hx hb dX9_names_61 rfl (lv_at hl 3 rfl) ?_
  refine lv_bipush (v := 25) hx hb dX9_names_62 (by decide) ?_
  refine lv_icmp_ne (tgt := 77) hx hb dX9_names_64 (by decide) (fun _ => ?_) (fun c_ => absurd c_ (by decide))
  refine lv_iload_n hx hb dX9_names_77 rfl (lv_at hl 3 rfl) ?_
  refine lv_bipush (v := 9) hx hb dX9_names_78 (by decide) ?_
  refine lv_bipush (v := 12) hx hb dX9_names_80 (by decide) ?_
  refine r_ki hw (r_runS (rest := []) hC hw (c_X9_isIn l _ _ 29 9 12) 3 gX9_names_X9_isIn rfl rfl rfl (by decide +kernel) ⟨Nat.le_of_ble_eq_true rfl, Nat.le_of_ble_eq_true rfl⟩ rfl hl.1 rfl (Nat.le_of_ble_eq_true rfl) dX9_names_82 ⟨Nat.le_of_ble_eq_true rfl, Nat.le_of_ble_eq_true rfl⟩) (fun r_5 u_6 H locs h_4 hw => ?_)
  rw [if_neg (by decide)] at h_4
  subst h_4
  refine lv_if_eq (tgt := 98) hx hb dX9_names_85 (by decide) (fun _ => ?_) (fun c_ => absurd (by decide) c_)
  refine lv_iload_n hx hb dX9_names_98 rfl (lv_at hl 3 rfl) ?_
  refine lv_bipush (v := 13) hx hb dX9_names_99 (by decide) ?_
  refine lv_bipush (v := 24) hx hb dX9_names_101 (by decide) ?_
  refine r_ki hw (r_runS (rest := []) hC hw (c_X9_isIn l _ _ 29 13 24) 3 gX9_names_X9_isIn rfl rfl rfl (by decide +kernel) ⟨Nat.le_of_ble_eq_true rfl, Nat.le_of_ble_eq_true rfl⟩ rfl hl.1 rfl (Nat.le_of_ble_eq_true rfl) dX9_names_103 ⟨Nat.le_of_ble_eq_true rfl, Nat.le_of_ble_eq_true rfl⟩) (fun r_8 u_9 H locs h_7 hw => ?_)
  rw [if_neg (by decide)] at h_7
  subst h_7
  refine lv_if_ne (tgt := 115) hx hb dX9_names_106 (by decide) (fun c_ => absurd (by decide) c_) (fun _ => ?_)
  refine lv_iload_n hx hb dX9_names_109 rfl (lv_at hl 3 rfl) ?_
  refine lv_bipush (v := 26) hx hb dX9_names_110 (by decide) ?_
  refine lv_icmp_ne (tgt := 270) hx hb dX9_names_112 (by decide) (fun _ => ?_) (fun c_ => absurd c_ (by decide))
  refine lv_iload_n hx hb dX9_names_270 rfl (lv_at hl 3 rfl) ?_
  refine lv_bipush (v := 27) hx hb dX9_names_271 (by decide) ?_
  refine lv_icmp_eq (tgt := 282) hx hb dX9_names_273 (by decide) (fun c_ => absurd c_ (by decide)) (fun _ => ?_)
  refine lv_iload_n hx hb dX9_names_276 rfl (lv_at hl 3 rfl) ?_
  refine lv_bipush (v := 29) hx hb dX9_names_277 (by decide) ?_
  refine lv_icmp_ne (tgt := 288) hx hb dX9_names_279 (by decide) (fun c_ => absurd (by decide) c_) (fun _ => ?_)
  refine lv_bipush (v := 6) hx hb dX9_names_282 (by decide) ?_
  refine lv_istore_n (lv' := [(2, .int 6), (4, .int 0), (3, .int 0), (0, .int 29), (1, .int wh)]) hx hb dX9_names_284 rfl hl (by decide) rfl (fun ls hl => ?_)
  refine lv_goto (tgt := 605) hx hb dX9_names_285 (by decide) ?_
  refine lv_iload_n hx hb dX9_names_605 rfl (lv_at hl 4 rfl) ?_
  refine lv_if_ne (tgt := 613) hx hb dX9_names_606 (by decide) (fun c_10 => ?_) (fun c_10 => ?_)
  · refine lv_iload_n hx hb dX9_names_613 rfl (lv_at hl 4 rfl) ?_
    refine lv_iconst (v := 1) hx hb dX9_names_614 (by decide) ?_
    refine lv_icmp_ne (tgt := 622) hx hb dX9_names_615 (by decide) (fun c_11 => ?_) (fun c_11 => ?_)
    · refine lv_iload hx hb dX9_names_622 (lv_at hl 1 rfl) ?_
      exact r_iret hC hr hlk hw () rfl ((if_neg c_10).trans (if_neg c_11)).symm (Nat.le_of_ble_eq_true rfl) (Nat.le_of_ble_eq_true rfl) dX9_names_624
    · refine lv_iload_n hx hb dX9_names_618 rfl (lv_at hl 2 rfl) ?_
      refine lv_goto (tgt := 624) hx hb dX9_names_619 (by decide) ?_
      exact r_iret hC hr hlk hw () rfl ((if_neg c_10).trans (if_pos c_11)).symm (Nat.le_of_ble_eq_true rfl) (Nat.le_of_ble_eq_true rfl) dX9_names_624
  · refine lv_iload_n hx hb dX9_names_609 rfl (lv_at hl 0 rfl) ?_
    refine lv_goto (tgt := 624) hx hb dX9_names_610 (by decide) ?_
    exact r_iret hC hr hlk hw () rfl (if_pos c_10).symm (Nat.le_of_ble_eq_true rfl) (Nat.le_of_ble_eq_true rfl) dX9_names_624

set_option maxHeartbeats 4000000 in
set_option maxRecDepth 100000 in
theorem c_X9_names_30 (l : Launch) {D : va_G} {q : Nat → ClassId} (w : wT) (sz : Nat) (wh : Int32) : Met l yX9_names wsX9_names (rmz 1 22) (va_Pc [.int 30, .int wh] (rPre D q w sz)) (va_Qi (fun (r : Int32) (u : Unit) => r = if wh = 0 then 0 else if wh = 1 then 0 else 0) (fun (u : Unit) tt => rPo D (rA w sz) w tt) (rA w sz)) 0 0 (rA w sz) := by
  refine r_start (cc := cX9_names) (maxL := 6) (ret := (some .int)) (by decide) rfl (Nat.le_of_ble_eq_true rfl) ?_
  intro p e s m below meth c ls hC hr hlk hnm hsz hw hl
  have hx := hC.1
  have hb := hC.2.1
  have hl : lv_has ls 6 [(0, .int 30), (1, .int wh)] := hl
  refine lv_iconst (v := 0) hx hb dX9_names_0 (by decide) ?_
  refine lv_istore_n (lv' := [(2, .int 0), (0, .int 30), (1, .int wh)]) hx hb dX9_names_1 rfl hl (by decide) rfl (fun ls hl => ?_)
  refine lv_iconst (v := 0) hx hb dX9_names_2 (by decide) ?_
  refine lv_istore_n (lv' := [(3, .int 0), (2, .int 0), (0, .int 30), (1, .int wh)]) hx hb dX9_names_3 rfl hl (by decide) rfl (fun ls hl => ?_)
  refine lv_iconst (v := 0) hx hb dX9_names_4 (by decide) ?_
  refine lv_istore (lv' := [(4, .int 0), (3, .int 0), (2, .int 0), (0, .int 30), (1, .int wh)]) hx hb dX9_names_5 hl (by decide) rfl (fun ls hl => ?_)
  refine lv_iload_n hx hb dX9_names_7 rfl (lv_at hl 3 rfl) ?_
  refine lv_iconst (v := 1) hx hb dX9_names_8 (by decide) ?_
  refine lv_icmp_eq (tgt := 24) hx hb dX9_names_9 (by decide) (fun c_ => absurd c_ (by decide)) (fun _ => ?_)
  refine lv_iload_n hx hb dX9_names_12 rfl (lv_at hl 3 rfl) ?_
  refine lv_bipush (v := 72) hx hb dX9_names_13 (by decide) ?_
  refine lv_icmp_eq (tgt := 24) hx hb dX9_names_15 (by decide) (fun c_ => absurd c_ (by decide)) (fun _ => ?_)
  refine lv_iload_n hx hb dX9_names_18 rfl (lv_at hl 3 rfl) ?_
  refine lv_bipush (v := 73) hx hb dX9_names_19 (by decide) ?_
  refine lv_icmp_ne (tgt := 29) hx hb dX9_names_21 (by decide) (fun _ => ?_) (fun c_ => absurd c_ (by decide))
  refine lv_iload_n hx hb dX9_names_29 rfl (lv_at hl 3 rfl) ?_
  refine lv_iconst (v := 2) hx hb dX9_names_30 (by decide) ?_
  refine lv_icmp_ne (tgt := 39) hx hb dX9_names_31 (by decide) (fun _ => ?_) (fun c_ => absurd c_ (by decide))
  refine lv_iload_n hx hb dX9_names_39 rfl (lv_at hl 3 rfl) ?_
  refine lv_iconst (v := 3) hx hb dX9_names_40 (by decide) ?_
  refine lv_icmp_ne (tgt := 51) hx hb dX9_names_41 (by decide) (fun _ => ?_) (fun c_ => absurd c_ (by decide))
  refine lv_iload_n hx hb dX9_names_51 rfl (lv_at hl 3 rfl) ?_
  refine lv_iconst (v := 4) hx hb dX9_names_52 (by decide) ?_
  refine lv_bipush (v := 8) hx hb dX9_names_53 (by decide) ?_
  refine r_ki hw (r_runS (rest := []) hC hw (c_X9_isIn l _ _ 30 4 8) 3 gX9_names_X9_isIn rfl rfl rfl (by decide +kernel) ⟨Nat.le_of_ble_eq_true rfl, Nat.le_of_ble_eq_true rfl⟩ rfl hl.1 rfl (Nat.le_of_ble_eq_true rfl) dX9_names_55 ⟨Nat.le_of_ble_eq_true rfl, Nat.le_of_ble_eq_true rfl⟩) (fun r_2 u_3 H locs h_1 hw => ?_)
  rw [if_neg (by decide)] at h_1
  subst h_1
  refine lv_if_ne (tgt := 67) hx hb dX9_names_58 (by decide) (fun c_ => absurd (by decide) c_) (fun _ => ?_)
  refine lv_iload_n hx hb dX9_names_61 rfl (lv_at hl 3 rfl) ?_
  refine lv_bipush (v := 25) hx hb dX9_names_62 (by decide) ?_
  refine lv_icmp_ne (tgt := 77) hx hb dX9_names_64 (by decide) (fun _ => ?_) (fun c_ => absurd c_ (by decide))
  refine lv_iload_n hx hb dX9_names_77 rfl (lv_at hl 3 rfl) ?_
  refine lv_bipush (v := 9) hx hb dX9_names_78 (by decide) ?_
  refine lv_bipush (v := 12) hx hb dX9_names_80 (by decide) ?_
  refine r_ki hw (r_runS (rest := []) hC hw (c_X9_isIn l _ _ 30 9 12) 3 gX9_names_X9_isIn rfl rfl rfl (by decide +kernel) ⟨Nat.le_of_ble_eq_true rfl, Nat.le_of_ble_eq_true rfl⟩ rfl hl.1 rfl (Nat.le_of_ble_eq_true rfl) dX9_names_82 ⟨Nat.le_of_ble_eq_true rfl, Nat.le_of_ble_eq_true rfl⟩) (fun r_5 u_6 H locs h_4 hw => ?_)
  rw [if_neg (by decide)] at h_4
  subst h_4
  refine lv_if_eq (tgt := 98) hx hb dX9_names_85 (by decide) (fun _ => ?_) (fun c_ => absurd (by decide) c_)
  refine lv_iload_n hx hb dX9_names_98 rfl (lv_at hl 3 rfl) ?_
  refine lv_bipush (v := 13) hx hb dX9_names_99 (by decide) ?_
  refine lv_bipush (v := 24) hx hb dX9_names_101 (by decide) ?_
  refine r_ki hw (r_runS (rest := []) hC hw (c_X9_isIn l _ _ 30 13 24) 3 gX9_names_X9_isIn rfl rfl rfl (by decide +kernel) ⟨Nat.le_of_ble_eq_true rfl, Nat.le_of_ble_eq_true rfl⟩ rfl hl.1 rfl (Nat.le_of_ble_eq_true rfl) dX9_names_103 ⟨Nat.le_of_ble_eq_true rfl, Nat.le_of_ble_eq_true rfl⟩) (fun r_8 u_9 H locs h_7 hw => ?_)
  rw [if_neg (by decide)] at h_7
  subst h_7
  refine lv_if_ne (tgt := 115) hx hb dX9_names_106 (by decide) (fun c_ => absurd (by decide) c_) (fun _ => ?_)
  refine lv_iload_n hx hb dX9_names_109 rfl (lv_at hl 3 rfl) ?_
  refine lv_bipush (v := 26) hx hb dX9_names_110 (by decide) ?_
  refine lv_icmp_ne (tgt := 270) hx hb dX9_names_112 (by decide) (fun _ => ?_) (fun c_ => absurd c_ (by decide))
  refine lv_iload_n hx hb dX9_names_270 rfl (lv_at hl 3 rfl) ?_
  refine lv_bipush (v := 27) hx hb dX9_names_271 (by decide) ?_
  refine lv_icmp_eq (tgt := 282) hx hb dX9_names_273 (by decide) (fun c_ => absurd c_ (by decide)) (fun _ => ?_)
  refine lv_iload_n hx hb dX9_names_276 rfl (lv_at hl 3 rfl) ?_
  refine lv_bipush (v := 29) hx hb dX9_names_277 (by decide) ?_
  refine lv_icmp_ne (tgt := 288) hx hb dX9_names_279 (by decide) (fun _ => ?_) (fun c_ => absurd c_ (by decide))
  refine lv_iload_n hx hb dX9_names_288 rfl (lv_at hl 3 rfl) ?_
  refine lv_bipush (v := 28) hx hb dX9_names_289 (by decide) ?_
  refine lv_icmp_ne (tgt := 302) hx hb dX9_names_291 (by decide) (fun _ => ?_) (fun c_ => absurd c_ (by decide))
  refine lv_iload_n hx hb dX9_names_302 rfl (lv_at hl 3 rfl) ?_
  refine lv_bipush (v := 31) hx hb dX9_names_303 (by decide) ?_
  refine lv_bipush (v := 38) hx hb dX9_names_305 (by decide) ?_
  refine r_ki hw (r_runS (rest := []) hC hw (c_X9_isIn l _ _ 30 31 38) 3 gX9_names_X9_isIn rfl rfl rfl (by decide +kernel) ⟨Nat.le_of_ble_eq_true rfl, Nat.le_of_ble_eq_true rfl⟩ rfl hl.1 rfl (Nat.le_of_ble_eq_true rfl) dX9_names_307 ⟨Nat.le_of_ble_eq_true rfl, Nat.le_of_ble_eq_true rfl⟩) (fun r_11 u_12 H locs h_10 hw => ?_)
  rw [if_neg (by decide)] at h_10
  subst h_10
  refine lv_if_eq (tgt := 411) hx hb dX9_names_310 (by decide) (fun _ => ?_) (fun c_ => absurd (by decide) c_)
  refine lv_iload_n hx hb dX9_names_411 rfl (lv_at hl 3 rfl) ?_
  refine lv_bipush (v := 39) hx hb dX9_names_412 (by decide) ?_
  refine lv_bipush (v := 58) hx hb dX9_names_414 (by decide) ?_
  refine r_ki hw (r_runS (rest := []) hC hw (c_X9_isIn l _ _ 30 39 58) 3 gX9_names_X9_isIn rfl rfl rfl (by decide +kernel) ⟨Nat.le_of_ble_eq_true rfl, Nat.le_of_ble_eq_true rfl⟩ rfl hl.1 rfl (Nat.le_of_ble_eq_true rfl) dX9_names_416 ⟨Nat.le_of_ble_eq_true rfl, Nat.le_of_ble_eq_true rfl⟩) (fun r_14 u_15 H locs h_13 hw => ?_)
  rw [if_neg (by decide)] at h_13
  subst h_13
  refine lv_if_eq (tgt := 483) hx hb dX9_names_419 (by decide) (fun _ => ?_) (fun c_ => absurd (by decide) c_)
  refine lv_iload_n hx hb dX9_names_483 rfl (lv_at hl 3 rfl) ?_
  refine lv_bipush (v := 59) hx hb dX9_names_484 (by decide) ?_
  refine lv_bipush (v := 66) hx hb dX9_names_486 (by decide) ?_
  refine r_ki hw (r_runS (rest := []) hC hw (c_X9_isIn l _ _ 30 59 66) 3 gX9_names_X9_isIn rfl rfl rfl (by decide +kernel) ⟨Nat.le_of_ble_eq_true rfl, Nat.le_of_ble_eq_true rfl⟩ rfl hl.1 rfl (Nat.le_of_ble_eq_true rfl) dX9_names_488 ⟨Nat.le_of_ble_eq_true rfl, Nat.le_of_ble_eq_true rfl⟩) (fun r_17 u_18 H locs h_16 hw => ?_)
  rw [if_neg (by decide)] at h_16
  subst h_16
  refine lv_if_eq (tgt := 546) hx hb dX9_names_491 (by decide) (fun _ => ?_) (fun c_ => absurd (by decide) c_)
  refine lv_iload_n hx hb dX9_names_546 rfl (lv_at hl 3 rfl) ?_
  refine lv_bipush (v := 67) hx hb dX9_names_547 (by decide) ?_
  refine lv_icmp_ne (tgt := 562) hx hb dX9_names_549 (by decide) (fun _ => ?_) (fun c_ => absurd c_ (by decide))
  refine lv_iload_n hx hb dX9_names_562 rfl (lv_at hl 3 rfl) ?_
  refine lv_bipush (v := 68) hx hb dX9_names_563 (by decide) ?_
  refine lv_icmp_eq (tgt := 574) hx hb dX9_names_565 (by decide) (fun c_ => absurd c_ (by decide)) (fun _ => ?_)
  refine lv_iload_n hx hb dX9_names_568 rfl (lv_at hl 3 rfl) ?_
  refine lv_bipush (v := 69) hx hb dX9_names_569 (by decide) ?_
  refine lv_icmp_ne (tgt := 579) hx hb dX9_names_571 (by decide) (fun _ => ?_) (fun c_ => absurd c_ (by decide))
  refine lv_iload_n hx hb dX9_names_579 rfl (lv_at hl 3 rfl) ?_
  refine lv_bipush (v := 70) hx hb dX9_names_580 (by decide) ?_
  refine lv_icmp_eq (tgt := 591) hx hb dX9_names_582 (by decide) (fun c_ => absurd c_ (by decide)) (fun _ => ?_)
  refine lv_iload_n hx hb dX9_names_585 rfl (lv_at hl 3 rfl) ?_
  refine lv_bipush (v := 71) hx hb dX9_names_586 (by decide) ?_
  refine lv_icmp_ne (tgt := 605) hx hb dX9_names_588 (by decide) (fun _ => ?_) (fun c_ => absurd c_ (by decide))
  refine lv_iload_n hx hb dX9_names_605 rfl (lv_at hl 4 rfl) ?_
  refine lv_if_ne (tgt := 613) hx hb dX9_names_606 (by decide) (fun c_19 => ?_) (fun c_19 => ?_)
  · refine lv_iload_n hx hb dX9_names_613 rfl (lv_at hl 4 rfl) ?_
    refine lv_iconst (v := 1) hx hb dX9_names_614 (by decide) ?_
    refine lv_icmp_ne (tgt := 622) hx hb dX9_names_615 (by decide) (fun c_20 => ?_) (fun c_20 => ?_)
    · refine lv_iload hx hb dX9_names_622 (lv_at hl 0 rfl) ?_
      exact r_iret hC hr hlk hw () rfl ((if_neg c_19).trans (if_neg c_20)).symm (Nat.le_of_ble_eq_true rfl) (Nat.le_of_ble_eq_true rfl) dX9_names_624
    · refine lv_iload_n hx hb dX9_names_618 rfl (lv_at hl 1 rfl) ?_
      refine lv_goto (tgt := 624) hx hb dX9_names_619 (by decide) ?_
      exact r_iret hC hr hlk hw () rfl ((if_neg c_19).trans (if_pos c_20)).symm (Nat.le_of_ble_eq_true rfl) (Nat.le_of_ble_eq_true rfl) dX9_names_624
  · refine lv_iload_n hx hb dX9_names_609 rfl (lv_at hl 2 rfl) ?_
    refine lv_goto (tgt := 624) hx hb dX9_names_610 (by decide) ?_
    exact r_iret hC hr hlk hw () rfl (if_pos c_19).symm (Nat.le_of_ble_eq_true rfl) (Nat.le_of_ble_eq_true rfl) dX9_names_624

set_option maxHeartbeats 4000000 in
set_option maxRecDepth 100000 in
theorem c_X9_names_31 (l : Launch) {D : va_G} {q : Nat → ClassId} (w : wT) (sz : Nat) (wh : Int32) : Met l yX9_names wsX9_names (rmz 1 22) (va_Pc [.int 31, .int wh] (rPre D q w sz)) (va_Qi (fun (r : Int32) (u : Unit) => r = if wh = 0 then 5 else if wh = 1 then 7 else 1) (fun (u : Unit) tt => rPo D (rA w sz) w tt) (rA w sz)) 0 0 (rA w sz) := by
  refine r_start (cc := cX9_names) (maxL := 6) (ret := (some .int)) (by decide) rfl (Nat.le_of_ble_eq_true rfl) ?_
  intro p e s m below meth c ls hC hr hlk hnm hsz hw hl
  have hx := hC.1
  have hb := hC.2.1
  have hl : lv_has ls 6 [(0, .int 31), (1, .int wh)] := hl
  refine lv_iconst (v := 0) hx hb dX9_names_0 (by decide) ?_
  refine lv_istore_n (lv' := [(2, .int 0), (0, .int 31), (1, .int wh)]) hx hb dX9_names_1 rfl hl (by decide) rfl (fun ls hl => ?_)
  refine lv_iconst (v := 0) hx hb dX9_names_2 (by decide) ?_
  refine lv_istore_n (lv' := [(3, .int 0), (2, .int 0), (0, .int 31), (1, .int wh)]) hx hb dX9_names_3 rfl hl (by decide) rfl (fun ls hl => ?_)
  refine lv_iconst (v := 0) hx hb dX9_names_4 (by decide) ?_
  refine lv_istore (lv' := [(4, .int 0), (3, .int 0), (2, .int 0), (0, .int 31), (1, .int wh)]) hx hb dX9_names_5 hl (by decide) rfl (fun ls hl => ?_)
  refine lv_iload_n hx hb dX9_names_7 rfl (lv_at hl 3 rfl) ?_
  refine lv_iconst (v := 1) hx hb dX9_names_8 (by decide) ?_
  refine lv_icmp_eq (tgt := 24) hx hb dX9_names_9 (by decide) (fun c_ => absurd c_ (by decide)) (fun _ => ?_)
  refine lv_iload_n hx hb dX9_names_12 rfl (lv_at hl 3 rfl) ?_
  refine lv_bipush (v := 72) hx hb dX9_names_13 (by decide) ?_
  refine lv_icmp_eq (tgt := 24) hx hb dX9_names_15 (by decide) (fun c_ => absurd c_ (by decide)) (fun _ => ?_)
  refine lv_iload_n hx hb dX9_names_18 rfl (lv_at hl 3 rfl) ?_
  refine lv_bipush (v := 73) hx hb dX9_names_19 (by decide) ?_
  refine lv_icmp_ne (tgt := 29) hx hb dX9_names_21 (by decide) (fun _ => ?_) (fun c_ => absurd c_ (by decide))
  refine lv_iload_n hx hb dX9_names_29 rfl (lv_at hl 3 rfl) ?_
  refine lv_iconst (v := 2) hx hb dX9_names_30 (by decide) ?_
  refine lv_icmp_ne (tgt := 39) hx hb dX9_names_31 (by decide) (fun _ => ?_) (fun c_ => absurd c_ (by decide))
  refine lv_iload_n hx hb dX9_names_39 rfl (lv_at hl 3 rfl) ?_
  refine lv_iconst (v := 3) hx hb dX9_names_40 (by decide) ?_
  refine lv_icmp_ne (tgt := 51) hx hb dX9_names_41 (by decide) (fun _ => ?_) (fun c_ => absurd c_ (by decide))
  refine lv_iload_n hx hb dX9_names_51 rfl (lv_at hl 3 rfl) ?_
  refine lv_iconst (v := 4) hx hb dX9_names_52 (by decide) ?_
  refine lv_bipush (v := 8) hx hb dX9_names_53 (by decide) ?_
  refine r_ki hw (r_runS (rest := []) hC hw (c_X9_isIn l _ _ 31 4 8) 3 gX9_names_X9_isIn rfl rfl rfl (by decide +kernel) ⟨Nat.le_of_ble_eq_true rfl, Nat.le_of_ble_eq_true rfl⟩ rfl hl.1 rfl (Nat.le_of_ble_eq_true rfl) dX9_names_55 ⟨Nat.le_of_ble_eq_true rfl, Nat.le_of_ble_eq_true rfl⟩) (fun r_2 u_3 H locs h_1 hw => ?_)
  rw [if_neg (by decide)] at h_1
  subst h_1
  refine lv_if_ne (tgt := 67) hx hb dX9_names_58 (by decide) (fun c_ => absurd (by decide) c_) (fun _ => ?_)
  refine lv_iload_n hx hb dX9_names_61 rfl (lv_at hl 3 rfl) ?_
  refine lv_bipush (v := 25) hx hb dX9_names_62 (by decide) ?_
  refine lv_icmp_ne (tgt := 77) hx hb dX9_names_64 (by decide) (fun _ => ?_) (fun c_ => absurd c_ (by decide))
  refine lv_iload_n hx hb dX9_names_77 rfl (lv_at hl 3 rfl) ?_
  refine lv_bipush (v := 9) hx hb dX9_names_78 (by decide) ?_
  refine lv_bipush (v := 12) hx hb dX9_names_80 (by decide) ?_
  refine r_ki hw (r_runS (rest := []) hC hw (c_X9_isIn l _ _ 31 9 12) 3 gX9_names_X9_isIn rfl rfl rfl (by decide +kernel) ⟨Nat.le_of_ble_eq_true rfl, Nat.le_of_ble_eq_true rfl⟩ rfl hl.1 rfl (Nat.le_of_ble_eq_true rfl) dX9_names_82 ⟨Nat.le_of_ble_eq_true rfl, Nat.le_of_ble_eq_true rfl⟩) (fun r_5 u_6 H locs h_4 hw => ?_)
  rw [if_neg (by decide)] at h_4
  subst h_4
  refine lv_if_eq (tgt := 98) hx hb dX9_names_85 (by decide) (fun _ => ?_) (fun c_ => absurd (by decide) c_)
  refine lv_iload_n hx hb dX9_names_98 rfl (lv_at hl 3 rfl) ?_
  refine lv_bipush (v := 13) hx hb dX9_names_99 (by decide) ?_
  refine lv_bipush (v := 24) hx hb dX9_names_101 (by decide) ?_
  refine r_ki hw (r_runS (rest := []) hC hw (c_X9_isIn l _ _ 31 13 24) 3 gX9_names_X9_isIn rfl rfl rfl (by decide +kernel) ⟨Nat.le_of_ble_eq_true rfl, Nat.le_of_ble_eq_true rfl⟩ rfl hl.1 rfl (Nat.le_of_ble_eq_true rfl) dX9_names_103 ⟨Nat.le_of_ble_eq_true rfl, Nat.le_of_ble_eq_true rfl⟩) (fun r_8 u_9 H locs h_7 hw => ?_)
  rw [if_neg (by decide)] at h_7
  subst h_7
  refine lv_if_ne (tgt := 115) hx hb dX9_names_106 (by decide) (fun c_ => absurd (by decide) c_) (fun _ => ?_)
  refine lv_iload_n hx hb dX9_names_109 rfl (lv_at hl 3 rfl) ?_
  refine lv_bipush (v := 26) hx hb dX9_names_110 (by decide) ?_
  refine lv_icmp_ne (tgt := 270) hx hb dX9_names_112 (by decide) (fun _ => ?_) (fun c_ => absurd c_ (by decide))
  refine lv_iload_n hx hb dX9_names_270 rfl (lv_at hl 3 rfl) ?_
  refine lv_bipush (v := 27) hx hb dX9_names_271 (by decide) ?_
  refine lv_icmp_eq (tgt := 282) hx hb dX9_names_273 (by decide) (fun c_ => absurd c_ (by decide)) (fun _ => ?_)
  refine lv_iload_n hx hb dX9_names_276 rfl (lv_at hl 3 rfl) ?_
  refine lv_bipush (v := 29) hx hb dX9_names_277 (by decide) ?_
  refine lv_icmp_ne (tgt := 288) hx hb dX9_names_279 (by decide) (fun _ => ?_) (fun c_ => absurd c_ (by decide))
  refine lv_iload_n hx hb dX9_names_288 rfl (lv_at hl 3 rfl) ?_
  refine lv_bipush (v := 28) hx hb dX9_names_289 (by decide) ?_
  refine lv_icmp_ne (tgt := 302) hx hb dX9_names_291 (by decide) (fun _ => ?_) (fun c_ => absurd c_ (by decide))
  refine lv_iload_n hx hb dX9_names_302 rfl (lv_at hl 3 rfl) ?_
  refine lv_bipush (v := 31) hx hb dX9_names_303 (by decide) ?_
  refine lv_bipush (v := 38) hx hb dX9_names_305 (by decide) ?_
  refine r_ki hw (r_runS (rest := []) hC hw (c_X9_isIn l _ _ 31 31 38) 3 gX9_names_X9_isIn rfl rfl rfl (by decide +kernel) ⟨Nat.le_of_ble_eq_true rfl, Nat.le_of_ble_eq_true rfl⟩ rfl hl.1 rfl (Nat.le_of_ble_eq_true rfl) dX9_names_307 ⟨Nat.le_of_ble_eq_true rfl, Nat.le_of_ble_eq_true rfl⟩) (fun r_11 u_12 H locs h_10 hw => ?_)
  rw [if_pos (by decide)] at h_10
  subst h_10
  refine lv_if_eq (tgt := 411) hx hb dX9_names_310 (by decide) (fun c_ => absurd c_ (by decide)) (fun _ => ?_)
  refine lv_iload_n hx hb dX9_names_313 rfl (lv_at hl 3 rfl) ?_
  refine lv_bipush (v := 36) hx hb dX9_names_314 (by decide) ?_
  refine lv_icmp_lt (tgt := 323) hx hb dX9_names_316 (by decide) (fun _ => ?_) (fun c_ => absurd (by decide) c_)
  refine lv_iconst (v := 5) hx hb dX9_names_323 (by decide) ?_
  refine lv_istore_n (lv' := [(2, .int 5), (4, .int 0), (3, .int 0), (0, .int 31), (1, .int wh)]) hx hb dX9_names_324 rfl hl (by decide) rfl (fun ls hl => ?_)
  refine lv_iload_n hx hb dX9_names_325 rfl (lv_at hl 3 rfl) ?_
  refine lv_bipush (v := 31) hx hb dX9_names_326 (by decide) ?_
  refine lv_icmp_ne (tgt := 336) hx hb dX9_names_328 (by decide) (fun c_ => absurd (by decide) c_) (fun _ => ?_)
  refine lv_bipush (v := 7) hx hb dX9_names_331 (by decide) ?_
  refine lv_goto (tgt := 368) hx hb dX9_names_333 (by decide) ?_
  refine lv_istore_n (lv' := [(3, .int 7), (2, .int 5), (4, .int 0), (0, .int 31), (1, .int wh)]) hx hb dX9_names_368 rfl hl (by decide) rfl (fun ls hl => ?_)
  refine lv_iload_n hx hb dX9_names_369 rfl (lv_at hl 3 rfl) ?_
  refine lv_bipush (v := 31) hx hb dX9_names_370 (by decide) ?_
  refine lv_bipush (v := 33) hx hb dX9_names_372 (by decide) ?_
  refine r_ki hw (r_runS (rest := []) hC hw (c_X9_isIn l _ _ 31 31 33) 3 gX9_names_X9_isIn rfl rfl rfl (by decide +kernel) ⟨Nat.le_of_ble_eq_true rfl, Nat.le_of_ble_eq_true rfl⟩ rfl hl.1 rfl (Nat.le_of_ble_eq_true rfl) dX9_names_374 ⟨Nat.le_of_ble_eq_true rfl, Nat.le_of_ble_eq_true rfl⟩) (fun r_14 u_15 H locs h_13 hw => ?_)
  rw [if_pos (by decide)] at h_13
  subst h_13
  refine lv_if_eq (tgt := 384) hx hb dX9_names_377 (by decide) (fun c_ => absurd c_ (by decide)) (fun _ => ?_)
  refine lv_iconst (v := 1) hx hb dX9_names_380 (by decide) ?_
  refine lv_goto (tgt := 406) hx hb dX9_names_381 (by decide) ?_
  refine lv_istore (lv' := [(4, .int 1), (3, .int 7), (2, .int 5), (0, .int 31), (1, .int wh)]) hx hb dX9_names_406 hl (by decide) rfl (fun ls hl => ?_)
  refine lv_goto (tgt := 605) hx hb dX9_names_408 (by decide) ?_
  refine lv_iload_n hx hb dX9_names_605 rfl (lv_at hl 4 rfl) ?_
  refine lv_if_ne (tgt := 613) hx hb dX9_names_606 (by decide) (fun c_16 => ?_) (fun c_16 => ?_)
  · refine lv_iload_n hx hb dX9_names_613 rfl (lv_at hl 4 rfl) ?_
    refine lv_iconst (v := 1) hx hb dX9_names_614 (by decide) ?_
    refine lv_icmp_ne (tgt := 622) hx hb dX9_names_615 (by decide) (fun c_17 => ?_) (fun c_17 => ?_)
    · refine lv_iload hx hb dX9_names_622 (lv_at hl 0 rfl) ?_
      exact r_iret hC hr hlk hw () rfl ((if_neg c_16).trans (if_neg c_17)).symm (Nat.le_of_ble_eq_true rfl) (Nat.le_of_ble_eq_true rfl) dX9_names_624
    · refine lv_iload_n hx hb dX9_names_618 rfl (lv_at hl 1 rfl) ?_
      refine lv_goto (tgt := 624) hx hb dX9_names_619 (by decide) ?_
      exact r_iret hC hr hlk hw () rfl ((if_neg c_16).trans (if_pos c_17)).symm (Nat.le_of_ble_eq_true rfl) (Nat.le_of_ble_eq_true rfl) dX9_names_624
  · refine lv_iload_n hx hb dX9_names_609 rfl (lv_at hl 2 rfl) ?_
    refine lv_goto (tgt := 624) hx hb dX9_names_610 (by decide) ?_
    exact r_iret hC hr hlk hw () rfl (if_pos c_16).symm (Nat.le_of_ble_eq_true rfl) (Nat.le_of_ble_eq_true rfl) dX9_names_624

set_option maxHeartbeats 4000000 in
set_option maxRecDepth 100000 in
theorem c_X9_names_32 (l : Launch) {D : va_G} {q : Nat → ClassId} (w : wT) (sz : Nat) (wh : Int32) : Met l yX9_names wsX9_names (rmz 1 22) (va_Pc [.int 32, .int wh] (rPre D q w sz)) (va_Qi (fun (r : Int32) (u : Unit) => r = if wh = 0 then 5 else if wh = 1 then 1 else 1) (fun (u : Unit) tt => rPo D (rA w sz) w tt) (rA w sz)) 0 0 (rA w sz) := by
  refine r_start (cc := cX9_names) (maxL := 6) (ret := (some .int)) (by decide) rfl (Nat.le_of_ble_eq_true rfl) ?_
  intro p e s m below meth c ls hC hr hlk hnm hsz hw hl
  have hx := hC.1
  have hb := hC.2.1
  have hl : lv_has ls 6 [(0, .int 32), (1, .int wh)] := hl
  refine lv_iconst (v := 0) hx hb dX9_names_0 (by decide) ?_
  refine lv_istore_n (lv' := [(2, .int 0), (0, .int 32), (1, .int wh)]) hx hb dX9_names_1 rfl hl (by decide) rfl (fun ls hl => ?_)
  refine lv_iconst (v := 0) hx hb dX9_names_2 (by decide) ?_
  refine lv_istore_n (lv' := [(3, .int 0), (2, .int 0), (0, .int 32), (1, .int wh)]) hx hb dX9_names_3 rfl hl (by decide) rfl (fun ls hl => ?_)
  refine lv_iconst (v := 0) hx hb dX9_names_4 (by decide) ?_
  refine lv_istore (lv' := [(4, .int 0), (3, .int 0), (2, .int 0), (0, .int 32), (1, .int wh)]) hx hb dX9_names_5 hl (by decide) rfl (fun ls hl => ?_)
  refine lv_iload_n hx hb dX9_names_7 rfl (lv_at hl 3 rfl) ?_
  refine lv_iconst (v := 1) hx hb dX9_names_8 (by decide) ?_
  refine lv_icmp_eq (tgt := 24) hx hb dX9_names_9 (by decide) (fun c_ => absurd c_ (by decide)) (fun _ => ?_)
  refine lv_iload_n hx hb dX9_names_12 rfl (lv_at hl 3 rfl) ?_
  refine lv_bipush (v := 72) hx hb dX9_names_13 (by decide) ?_
  refine lv_icmp_eq (tgt := 24) hx hb dX9_names_15 (by decide) (fun c_ => absurd c_ (by decide)) (fun _ => ?_)
  refine lv_iload_n hx hb dX9_names_18 rfl (lv_at hl 3 rfl) ?_
  refine lv_bipush (v := 73) hx hb dX9_names_19 (by decide) ?_
  refine lv_icmp_ne (tgt := 29) hx hb dX9_names_21 (by decide) (fun _ => ?_) (fun c_ => absurd c_ (by decide))
  refine lv_iload_n hx hb dX9_names_29 rfl (lv_at hl 3 rfl) ?_
  refine lv_iconst (v := 2) hx hb dX9_names_30 (by decide) ?_
  refine lv_icmp_ne (tgt := 39) hx hb dX9_names_31 (by decide) (fun _ => ?_) (fun c_ => absurd c_ (by decide))
  refine lv_iload_n hx hb dX9_names_39 rfl (lv_at hl 3 rfl) ?_
  refine lv_iconst (v := 3) hx hb dX9_names_40 (by decide) ?_
  refine lv_icmp_ne (tgt := 51) hx hb dX9_names_41 (by decide) (fun _ => ?_) (fun c_ => absurd c_ (by decide))
  refine lv_iload_n hx hb dX9_names_51 rfl (lv_at hl 3 rfl) ?_
  refine lv_iconst (v := 4) hx hb dX9_names_52 (by decide) ?_
  refine lv_bipush (v := 8) hx hb dX9_names_53 (by decide) ?_
  refine r_ki hw (r_runS (rest := []) hC hw (c_X9_isIn l _ _ 32 4 8) 3 gX9_names_X9_isIn rfl rfl rfl (by decide +kernel) ⟨Nat.le_of_ble_eq_true rfl, Nat.le_of_ble_eq_true rfl⟩ rfl hl.1 rfl (Nat.le_of_ble_eq_true rfl) dX9_names_55 ⟨Nat.le_of_ble_eq_true rfl, Nat.le_of_ble_eq_true rfl⟩) (fun r_2 u_3 H locs h_1 hw => ?_)
  rw [if_neg (by decide)] at h_1
  subst h_1
  refine lv_if_ne (tgt := 67) hx hb dX9_names_58 (by decide) (fun c_ => absurd (by decide) c_) (fun _ => ?_)
  refine lv_iload_n hx hb dX9_names_61 rfl (lv_at hl 3 rfl) ?_
  refine lv_bipush (v := 25) hx hb dX9_names_62 (by decide) ?_
  refine lv_icmp_ne (tgt := 77) hx hb dX9_names_64 (by decide) (fun _ => ?_) (fun c_ => absurd c_ (by decide))
  refine lv_iload_n hx hb dX9_names_77 rfl (lv_at hl 3 rfl) ?_
  refine lv_bipush (v := 9) hx hb dX9_names_78 (by decide) ?_
  refine lv_bipush (v := 12) hx hb dX9_names_80 (by decide) ?_
  refine r_ki hw (r_runS (rest := []) hC hw (c_X9_isIn l _ _ 32 9 12) 3 gX9_names_X9_isIn rfl rfl rfl (by decide +kernel) ⟨Nat.le_of_ble_eq_true rfl, Nat.le_of_ble_eq_true rfl⟩ rfl hl.1 rfl (Nat.le_of_ble_eq_true rfl) dX9_names_82 ⟨Nat.le_of_ble_eq_true rfl, Nat.le_of_ble_eq_true rfl⟩) (fun r_5 u_6 H locs h_4 hw => ?_)
  rw [if_neg (by decide)] at h_4
  subst h_4
  refine lv_if_eq (tgt := 98) hx hb dX9_names_85 (by decide) (fun _ => ?_) (fun c_ => absurd (by decide) c_)
  refine lv_iload_n hx hb dX9_names_98 rfl (lv_at hl 3 rfl) ?_
  refine lv_bipush (v := 13) hx hb dX9_names_99 (by decide) ?_
  refine lv_bipush (v := 24) hx hb dX9_names_101 (by decide) ?_
  refine r_ki hw (r_runS (rest := []) hC hw (c_X9_isIn l _ _ 32 13 24) 3 gX9_names_X9_isIn rfl rfl rfl (by decide +kernel) ⟨Nat.le_of_ble_eq_true rfl, Nat.le_of_ble_eq_true rfl⟩ rfl hl.1 rfl (Nat.le_of_ble_eq_true rfl) dX9_names_103 ⟨Nat.le_of_ble_eq_true rfl, Nat.le_of_ble_eq_true rfl⟩) (fun r_8 u_9 H locs h_7 hw => ?_)
  rw [if_neg (by decide)] at h_7
  subst h_7
  refine lv_if_ne (tgt := 115) hx hb dX9_names_106 (by decide) (fun c_ => absurd (by decide) c_) (fun _ => ?_)
  refine lv_iload_n hx hb dX9_names_109 rfl (lv_at hl 3 rfl) ?_
  refine lv_bipush (v := 26) hx hb dX9_names_110 (by decide) ?_
  refine lv_icmp_ne (tgt := 270) hx hb dX9_names_112 (by decide) (fun _ => ?_) (fun c_ => absurd c_ (by decide))
  refine lv_iload_n hx hb dX9_names_270 rfl (lv_at hl 3 rfl) ?_
  refine lv_bipush (v := 27) hx hb dX9_names_271 (by decide) ?_
  refine lv_icmp_eq (tgt := 282) hx hb dX9_names_273 (by decide) (fun c_ => absurd c_ (by decide)) (fun _ => ?_)
  refine lv_iload_n hx hb dX9_names_276 rfl (lv_at hl 3 rfl) ?_
  refine lv_bipush (v := 29) hx hb dX9_names_277 (by decide) ?_
  refine lv_icmp_ne (tgt := 288) hx hb dX9_names_279 (by decide) (fun _ => ?_) (fun c_ => absurd c_ (by decide))
  refine lv_iload_n hx hb dX9_names_288 rfl (lv_at hl 3 rfl) ?_
  refine lv_bipush (v := 28) hx hb dX9_names_289 (by decide) ?_
  refine lv_icmp_ne (tgt := 302) hx hb dX9_names_291 (by decide) (fun _ => ?_) (fun c_ => absurd c_ (by decide))
  refine lv_iload_n hx hb dX9_names_302 rfl (lv_at hl 3 rfl) ?_
  refine lv_bipush (v := 31) hx hb dX9_names_303 (by decide) ?_
  refine lv_bipush (v := 38) hx hb dX9_names_305 (by decide) ?_
  refine r_ki hw (r_runS (rest := []) hC hw (c_X9_isIn l _ _ 32 31 38) 3 gX9_names_X9_isIn rfl rfl rfl (by decide +kernel) ⟨Nat.le_of_ble_eq_true rfl, Nat.le_of_ble_eq_true rfl⟩ rfl hl.1 rfl (Nat.le_of_ble_eq_true rfl) dX9_names_307 ⟨Nat.le_of_ble_eq_true rfl, Nat.le_of_ble_eq_true rfl⟩) (fun r_11 u_12 H locs h_10 hw => ?_)
  rw [if_pos (by decide)] at h_10
  subst h_10
  refine lv_if_eq (tgt := 411) hx hb dX9_names_310 (by decide) (fun c_ => absurd c_ (by decide)) (fun _ => ?_)
  refine lv_iload_n hx hb dX9_names_313 rfl (lv_at hl 3 rfl) ?_
  refine lv_bipush (v := 36) hx hb dX9_names_314 (by decide) ?_
  refine lv_icmp_lt (tgt := 323) hx hb dX9_names_316 (by decide) (fun _ => ?_) (fun c_ => absurd (by decide) c_)
  refine lv_iconst (v := 5) hx hb dX9_names_323 (by decide) ?_
  refine lv_istore_n (lv' := [(2, .int 5), (4, .int 0), (3, .int 0), (0, .int 32), (1, .int wh)]) hx hb dX9_names_324 rfl hl (by decide) rfl (fun ls hl => ?_)
  refine lv_iload_n hx hb dX9_names_325 rfl (lv_at hl 3 rfl) ?_
  refine lv_bipush (v := 31) hx hb dX9_names_326 (by decide) ?_
  refine lv_icmp_ne (tgt := 336) hx hb dX9_names_328 (by decide) (fun _ => ?_) (fun c_ => absurd c_ (by decide))
  refine lv_iload_n hx hb dX9_names_336 rfl (lv_at hl 3 rfl) ?_
  refine lv_bipush (v := 32) hx hb dX9_names_337 (by decide) ?_
  refine lv_icmp_ne (tgt := 346) hx hb dX9_names_339 (by decide) (fun c_ => absurd (by decide) c_) (fun _ => ?_)
  refine lv_iconst (v := 1) hx hb dX9_names_342 (by decide) ?_
  refine lv_goto (tgt := 368) hx hb dX9_names_343 (by decide) ?_
  refine lv_istore_n (lv' := [(3, .int 1), (2, .int 5), (4, .int 0), (0, .int 32), (1, .int wh)]) hx hb dX9_names_368 rfl hl (by decide) rfl (fun ls hl => ?_)
  refine lv_iload_n hx hb dX9_names_369 rfl (lv_at hl 3 rfl) ?_
  refine lv_bipush (v := 31) hx hb dX9_names_370 (by decide) ?_
  refine lv_bipush (v := 33) hx hb dX9_names_372 (by decide) ?_
  refine r_ki hw (r_runS (rest := []) hC hw (c_X9_isIn l _ _ 32 31 33) 3 gX9_names_X9_isIn rfl rfl rfl (by decide +kernel) ⟨Nat.le_of_ble_eq_true rfl, Nat.le_of_ble_eq_true rfl⟩ rfl hl.1 rfl (Nat.le_of_ble_eq_true rfl) dX9_names_374 ⟨Nat.le_of_ble_eq_true rfl, Nat.le_of_ble_eq_true rfl⟩) (fun r_14 u_15 H locs h_13 hw => ?_)
  rw [if_pos (by decide)] at h_13
  subst h_13
  refine lv_if_eq (tgt := 384) hx hb dX9_names_377 (by decide) (fun c_ => absurd c_ (by decide)) (fun _ => ?_)
  refine lv_iconst (v := 1) hx hb dX9_names_380 (by decide) ?_
  refine lv_goto (tgt := 406) hx hb dX9_names_381 (by decide) ?_
  refine lv_istore (lv' := [(4, .int 1), (3, .int 1), (2, .int 5), (0, .int 32), (1, .int wh)]) hx hb dX9_names_406 hl (by decide) rfl (fun ls hl => ?_)
  refine lv_goto (tgt := 605) hx hb dX9_names_408 (by decide) ?_
  refine lv_iload_n hx hb dX9_names_605 rfl (lv_at hl 4 rfl) ?_
  refine lv_if_ne (tgt := 613) hx hb dX9_names_606 (by decide) (fun c_16 => ?_) (fun c_16 => ?_)
  · refine lv_iload_n hx hb dX9_names_613 rfl (lv_at hl 4 rfl) ?_
    refine lv_iconst (v := 1) hx hb dX9_names_614 (by decide) ?_
    refine lv_icmp_ne (tgt := 622) hx hb dX9_names_615 (by decide) (fun c_17 => ?_) (fun c_17 => ?_)
    · refine lv_iload hx hb dX9_names_622 (lv_at hl 0 rfl) ?_
      exact r_iret hC hr hlk hw () rfl ((if_neg c_16).trans (if_neg c_17)).symm (Nat.le_of_ble_eq_true rfl) (Nat.le_of_ble_eq_true rfl) dX9_names_624
    · refine lv_iload_n hx hb dX9_names_618 rfl (lv_at hl 1 rfl) ?_
      refine lv_goto (tgt := 624) hx hb dX9_names_619 (by decide) ?_
      exact r_iret hC hr hlk hw () rfl ((if_neg c_16).trans (if_pos c_17)).symm (Nat.le_of_ble_eq_true rfl) (Nat.le_of_ble_eq_true rfl) dX9_names_624
  · refine lv_iload_n hx hb dX9_names_609 rfl (lv_at hl 2 rfl) ?_
    refine lv_goto (tgt := 624) hx hb dX9_names_610 (by decide) ?_
    exact r_iret hC hr hlk hw () rfl (if_pos c_16).symm (Nat.le_of_ble_eq_true rfl) (Nat.le_of_ble_eq_true rfl) dX9_names_624

set_option maxHeartbeats 4000000 in
set_option maxRecDepth 100000 in
theorem c_X9_names_33 (l : Launch) {D : va_G} {q : Nat → ClassId} (w : wT) (sz : Nat) (wh : Int32) : Met l yX9_names wsX9_names (rmz 1 22) (va_Pc [.int 33, .int wh] (rPre D q w sz)) (va_Qi (fun (r : Int32) (u : Unit) => r = if wh = 0 then 5 else if wh = 1 then 8 else 1) (fun (u : Unit) tt => rPo D (rA w sz) w tt) (rA w sz)) 0 0 (rA w sz) := by
  refine r_start (cc := cX9_names) (maxL := 6) (ret := (some .int)) (by decide) rfl (Nat.le_of_ble_eq_true rfl) ?_
  intro p e s m below meth c ls hC hr hlk hnm hsz hw hl
  have hx := hC.1
  have hb := hC.2.1
  have hl : lv_has ls 6 [(0, .int 33), (1, .int wh)] := hl
  refine lv_iconst (v := 0) hx hb dX9_names_0 (by decide) ?_
  refine lv_istore_n (lv' := [(2, .int 0), (0, .int 33), (1, .int wh)]) hx hb dX9_names_1 rfl hl (by decide) rfl (fun ls hl => ?_)
  refine lv_iconst (v := 0) hx hb dX9_names_2 (by decide) ?_
  refine lv_istore_n (lv' := [(3, .int 0), (2, .int 0), (0, .int 33), (1, .int wh)]) hx hb dX9_names_3 rfl hl (by decide) rfl (fun ls hl => ?_)
  refine lv_iconst (v := 0) hx hb dX9_names_4 (by decide) ?_
  refine lv_istore (lv' := [(4, .int 0), (3, .int 0), (2, .int 0), (0, .int 33), (1, .int wh)]) hx hb dX9_names_5 hl (by decide) rfl (fun ls hl => ?_)
  refine lv_iload_n hx hb dX9_names_7 rfl (lv_at hl 3 rfl) ?_
  refine lv_iconst (v := 1) hx hb dX9_names_8 (by decide) ?_
  refine lv_icmp_eq (tgt := 24) hx hb dX9_names_9 (by decide) (fun c_ => absurd c_ (by decide)) (fun _ => ?_)
  refine lv_iload_n hx hb dX9_names_12 rfl (lv_at hl 3 rfl) ?_
  refine lv_bipush (v := 72) hx hb dX9_names_13 (by decide) ?_
  refine lv_icmp_eq (tgt := 24) hx hb dX9_names_15 (by decide) (fun c_ => absurd c_ (by decide)) (fun _ => ?_)
  refine lv_iload_n hx hb dX9_names_18 rfl (lv_at hl 3 rfl) ?_
  refine lv_bipush (v := 73) hx hb dX9_names_19 (by decide) ?_
  refine lv_icmp_ne (tgt := 29) hx hb dX9_names_21 (by decide) (fun _ => ?_) (fun c_ => absurd c_ (by decide))
  refine lv_iload_n hx hb dX9_names_29 rfl (lv_at hl 3 rfl) ?_
  refine lv_iconst (v := 2) hx hb dX9_names_30 (by decide) ?_
  refine lv_icmp_ne (tgt := 39) hx hb dX9_names_31 (by decide) (fun _ => ?_) (fun c_ => absurd c_ (by decide))
  refine lv_iload_n hx hb dX9_names_39 rfl (lv_at hl 3 rfl) ?_
  refine lv_iconst (v := 3) hx hb dX9_names_40 (by decide) ?_
  refine lv_icmp_ne (tgt := 51) hx hb dX9_names_41 (by decide) (fun _ => ?_) (fun c_ => absurd c_ (by decide))
  refine lv_iload_n hx hb dX9_names_51 rfl (lv_at hl 3 rfl) ?_
  refine lv_iconst (v := 4) hx hb dX9_names_52 (by decide) ?_
  refine lv_bipush (v := 8) hx hb dX9_names_53 (by decide) ?_
  refine r_ki hw (r_runS (rest := []) hC hw (c_X9_isIn l _ _ 33 4 8) 3 gX9_names_X9_isIn rfl rfl rfl (by decide +kernel) ⟨Nat.le_of_ble_eq_true rfl, Nat.le_of_ble_eq_true rfl⟩ rfl hl.1 rfl (Nat.le_of_ble_eq_true rfl) dX9_names_55 ⟨Nat.le_of_ble_eq_true rfl, Nat.le_of_ble_eq_true rfl⟩) (fun r_2 u_3 H locs h_1 hw => ?_)
  rw [if_neg (by decide)] at h_1
  subst h_1
  refine lv_if_ne (tgt := 67) hx hb dX9_names_58 (by decide) (fun c_ => absurd (by decide) c_) (fun _ => ?_)
  refine lv_iload_n hx hb dX9_names_61 rfl (lv_at hl 3 rfl) ?_
  refine lv_bipush (v := 25) hx hb dX9_names_62 (by decide) ?_
  refine lv_icmp_ne (tgt := 77) hx hb dX9_names_64 (by decide) (fun _ => ?_) (fun c_ => absurd c_ (by decide))
  refine lv_iload_n hx hb dX9_names_77 rfl (lv_at hl 3 rfl) ?_
  refine lv_bipush (v := 9) hx hb dX9_names_78 (by decide) ?_
  refine lv_bipush (v := 12) hx hb dX9_names_80 (by decide) ?_
  refine r_ki hw (r_runS (rest := []) hC hw (c_X9_isIn l _ _ 33 9 12) 3 gX9_names_X9_isIn rfl rfl rfl (by decide +kernel) ⟨Nat.le_of_ble_eq_true rfl, Nat.le_of_ble_eq_true rfl⟩ rfl hl.1 rfl (Nat.le_of_ble_eq_true rfl) dX9_names_82 ⟨Nat.le_of_ble_eq_true rfl, Nat.le_of_ble_eq_true rfl⟩) (fun r_5 u_6 H locs h_4 hw => ?_)
  rw [if_neg (by decide)] at h_4
  subst h_4
  refine lv_if_eq (tgt := 98) hx hb dX9_names_85 (by decide) (fun _ => ?_) (fun c_ => absurd (by decide) c_)
  refine lv_iload_n hx hb dX9_names_98 rfl (lv_at hl 3 rfl) ?_
  refine lv_bipush (v := 13) hx hb dX9_names_99 (by decide) ?_
  refine lv_bipush (v := 24) hx hb dX9_names_101 (by decide) ?_
  refine r_ki hw (r_runS (rest := []) hC hw (c_X9_isIn l _ _ 33 13 24) 3 gX9_names_X9_isIn rfl rfl rfl (by decide +kernel) ⟨Nat.le_of_ble_eq_true rfl, Nat.le_of_ble_eq_true rfl⟩ rfl hl.1 rfl (Nat.le_of_ble_eq_true rfl) dX9_names_103 ⟨Nat.le_of_ble_eq_true rfl, Nat.le_of_ble_eq_true rfl⟩) (fun r_8 u_9 H locs h_7 hw => ?_)
  rw [if_neg (by decide)] at h_7
  subst h_7
  refine lv_if_ne (tgt := 115) hx hb dX9_names_106 (by decide) (fun c_ => absurd (by decide) c_) (fun _ => ?_)
  refine lv_iload_n hx hb dX9_names_109 rfl (lv_at hl 3 rfl) ?_
  refine lv_bipush (v := 26) hx hb dX9_names_110 (by decide) ?_
  refine lv_icmp_ne (tgt := 270) hx hb dX9_names_112 (by decide) (fun _ => ?_) (fun c_ => absurd c_ (by decide))
  refine lv_iload_n hx hb dX9_names_270 rfl (lv_at hl 3 rfl) ?_
  refine lv_bipush (v := 27) hx hb dX9_names_271 (by decide) ?_
  refine lv_icmp_eq (tgt := 282) hx hb dX9_names_273 (by decide) (fun c_ => absurd c_ (by decide)) (fun _ => ?_)
  refine lv_iload_n hx hb dX9_names_276 rfl (lv_at hl 3 rfl) ?_
  refine lv_bipush (v := 29) hx hb dX9_names_277 (by decide) ?_
  refine lv_icmp_ne (tgt := 288) hx hb dX9_names_279 (by decide) (fun _ => ?_) (fun c_ => absurd c_ (by decide))
  refine lv_iload_n hx hb dX9_names_288 rfl (lv_at hl 3 rfl) ?_
  refine lv_bipush (v := 28) hx hb dX9_names_289 (by decide) ?_
  refine lv_icmp_ne (tgt := 302) hx hb dX9_names_291 (by decide) (fun _ => ?_) (fun c_ => absurd c_ (by decide))
  refine lv_iload_n hx hb dX9_names_302 rfl (lv_at hl 3 rfl) ?_
  refine lv_bipush (v := 31) hx hb dX9_names_303 (by decide) ?_
  refine lv_bipush (v := 38) hx hb dX9_names_305 (by decide) ?_
  refine r_ki hw (r_runS (rest := []) hC hw (c_X9_isIn l _ _ 33 31 38) 3 gX9_names_X9_isIn rfl rfl rfl (by decide +kernel) ⟨Nat.le_of_ble_eq_true rfl, Nat.le_of_ble_eq_true rfl⟩ rfl hl.1 rfl (Nat.le_of_ble_eq_true rfl) dX9_names_307 ⟨Nat.le_of_ble_eq_true rfl, Nat.le_of_ble_eq_true rfl⟩) (fun r_11 u_12 H locs h_10 hw => ?_)
  rw [if_pos (by decide)] at h_10
  subst h_10
  refine lv_if_eq (tgt := 411) hx hb dX9_names_310 (by decide) (fun c_ => absurd c_ (by decide)) (fun _ => ?_)
  refine lv_iload_n hx hb dX9_names_313 rfl (lv_at hl 3 rfl) ?_
  refine lv_bipush (v := 36) hx hb dX9_names_314 (by decide) ?_
  refine lv_icmp_lt (tgt := 323) hx hb dX9_names_316 (by decide) (fun _ => ?_) (fun c_ => absurd (by decide) c_)
  refine lv_iconst (v := 5) hx hb dX9_names_323 (by decide) ?_
  refine lv_istore_n (lv' := [(2, .int 5), (4, .int 0), (3, .int 0), (0, .int 33), (1, .int wh)]) hx hb dX9_names_324 rfl hl (by decide) rfl (fun ls hl => ?_)
  refine lv_iload_n hx hb dX9_names_325 rfl (lv_at hl 3 rfl) ?_
  refine lv_bipush (v := 31) hx hb dX9_names_326 (by decide) ?_
  refine lv_icmp_ne (tgt := 336) hx hb dX9_names_328 (by decide) (fun _ => ?_) (fun c_ => absurd c_ (by decide))
  refine lv_iload_n hx hb dX9_names_336 rfl (lv_at hl 3 rfl) ?_
  refine lv_bipush (v := 32) hx hb dX9_names_337 (by decide) ?_
  refine lv_icmp_ne (tgt := 346) hx hb dX9_names_339 (by decide) (fun _ => ?_) (fun c_ => absurd c_ (by decide))
  refine lv_iload_n hx hb dX9_names_346 rfl (lv_at hl 3 rfl) ?_
  refine lv_bipush (v := 33) hx hb dX9_names_347 (by decide) ?_
  refine lv_icmp_ne (tgt := 357) hx hb dX9_names_349 (by decide) (fun c_ => absurd (by decide) c_) (fun _ => ?_)
  refine lv_bipush (v := 8) hx hb dX9_names_352 (by decide) ?_
  refine lv_goto (tgt := 368) hx hb dX9_names_354 (by decide) ?_
  refine lv_istore_n (lv' := [(3, .int 8), (2, .int 5), (4, .int 0), (0, .int 33), (1, .int wh)]) hx hb dX9_names_368 rfl hl (by decide) rfl (fun ls hl => ?_)
  refine lv_iload_n hx hb dX9_names_369 rfl (lv_at hl 3 rfl) ?_
  refine lv_bipush (v := 31) hx hb dX9_names_370 (by decide) ?_
  refine lv_bipush (v := 33) hx hb dX9_names_372 (by decide) ?_
  refine r_ki hw (r_runS (rest := []) hC hw (c_X9_isIn l _ _ 33 31 33) 3 gX9_names_X9_isIn rfl rfl rfl (by decide +kernel) ⟨Nat.le_of_ble_eq_true rfl, Nat.le_of_ble_eq_true rfl⟩ rfl hl.1 rfl (Nat.le_of_ble_eq_true rfl) dX9_names_374 ⟨Nat.le_of_ble_eq_true rfl, Nat.le_of_ble_eq_true rfl⟩) (fun r_14 u_15 H locs h_13 hw => ?_)
  rw [if_pos (by decide)] at h_13
  subst h_13
  refine lv_if_eq (tgt := 384) hx hb dX9_names_377 (by decide) (fun c_ => absurd c_ (by decide)) (fun _ => ?_)
  refine lv_iconst (v := 1) hx hb dX9_names_380 (by decide) ?_
  refine lv_goto (tgt := 406) hx hb dX9_names_381 (by decide) ?_
  refine lv_istore (lv' := [(4, .int 1), (3, .int 8), (2, .int 5), (0, .int 33), (1, .int wh)]) hx hb dX9_names_406 hl (by decide) rfl (fun ls hl => ?_)
  refine lv_goto (tgt := 605) hx hb dX9_names_408 (by decide) ?_
  refine lv_iload_n hx hb dX9_names_605 rfl (lv_at hl 4 rfl) ?_
  refine lv_if_ne (tgt := 613) hx hb dX9_names_606 (by decide) (fun c_16 => ?_) (fun c_16 => ?_)
  · refine lv_iload_n hx hb dX9_names_613 rfl (lv_at hl 4 rfl) ?_
    refine lv_iconst (v := 1) hx hb dX9_names_614 (by decide) ?_
    refine lv_icmp_ne (tgt := 622) hx hb dX9_names_615 (by decide) (fun c_17 => ?_) (fun c_17 => ?_)
    · refine lv_iload hx hb dX9_names_622 (lv_at hl 0 rfl) ?_
      exact r_iret hC hr hlk hw () rfl ((if_neg c_16).trans (if_neg c_17)).symm (Nat.le_of_ble_eq_true rfl) (Nat.le_of_ble_eq_true rfl) dX9_names_624
    · refine lv_iload_n hx hb dX9_names_618 rfl (lv_at hl 1 rfl) ?_
      refine lv_goto (tgt := 624) hx hb dX9_names_619 (by decide) ?_
      exact r_iret hC hr hlk hw () rfl ((if_neg c_16).trans (if_pos c_17)).symm (Nat.le_of_ble_eq_true rfl) (Nat.le_of_ble_eq_true rfl) dX9_names_624
  · refine lv_iload_n hx hb dX9_names_609 rfl (lv_at hl 2 rfl) ?_
    refine lv_goto (tgt := 624) hx hb dX9_names_610 (by decide) ?_
    exact r_iret hC hr hlk hw () rfl (if_pos c_16).symm (Nat.le_of_ble_eq_true rfl) (Nat.le_of_ble_eq_true rfl) dX9_names_624

set_option maxHeartbeats 4000000 in
set_option maxRecDepth 100000 in
theorem c_X9_names_34 (l : Launch) {D : va_G} {q : Nat → ClassId} (w : wT) (sz : Nat) (wh : Int32) : Met l yX9_names wsX9_names (rmz 1 22) (va_Pc [.int 34, .int wh] (rPre D q w sz)) (va_Qi (fun (r : Int32) (u : Unit) => r = if wh = 0 then 5 else if wh = 1 then 5 else 0) (fun (u : Unit) tt => rPo D (rA w sz) w tt) (rA w sz)) 0 0 (rA w sz) := by
  refine r_start (cc := cX9_names) (maxL := 6) (ret := (some .int)) (by decide) rfl (Nat.le_of_ble_eq_true rfl) ?_
  intro p e s m below meth c ls hC hr hlk hnm hsz hw hl
  have hx := hC.1
  have hb := hC.2.1
  have hl : lv_has ls 6 [(0, .int 34), (1, .int wh)] := hl
  refine lv_iconst (v := 0) hx hb dX9_names_0 (by decide) ?_
  refine lv_istore_n (lv' := [(2, .int 0), (0, .int 34), (1, .int wh)]) hx hb dX9_names_1 rfl hl (by decide) rfl (fun ls hl => ?_)
  refine lv_iconst (v := 0) hx hb dX9_names_2 (by decide) ?_
  refine lv_istore_n (lv' := [(3, .int 0), (2, .int 0), (0, .int 34), (1, .int wh)]) hx hb dX9_names_3 rfl hl (by decide) rfl (fun ls hl => ?_)
  refine lv_iconst (v := 0) hx hb dX9_names_4 (by decide) ?_
  refine lv_istore (lv' := [(4, .int 0), (3, .int 0), (2, .int 0), (0, .int 34), (1, .int wh)]) hx hb dX9_names_5 hl (by decide) rfl (fun ls hl => ?_)
  refine lv_iload_n hx hb dX9_names_7 rfl (lv_at hl 3 rfl) ?_
  refine lv_iconst (v := 1) hx hb dX9_names_8 (by decide) ?_
  refine lv_icmp_eq (tgt := 24) hx hb dX9_names_9 (by decide) (fun c_ => absurd c_ (by decide)) (fun _ => ?_)
  refine lv_iload_n hx hb dX9_names_12 rfl (lv_at hl 3 rfl) ?_
  refine lv_bipush (v := 72) hx hb dX9_names_13 (by decide) ?_
  refine lv_icmp_eq (tgt := 24) hx hb dX9_names_15 (by decide) (fun c_ => absurd c_ (by decide)) (fun _ => ?_)
  refine lv_iload_n hx hb dX9_names_18 rfl (lv_at hl 3 rfl) ?_
  refine lv_bipush (v := 73) hx hb dX9_names_19 (by decide) ?_
  refine lv_icmp_ne (tgt := 29) hx hb dX9_names_21 (by decide) (fun _ => ?_) (fun c_ => absurd c_ (by decide))
  refine lv_iload_n hx hb dX9_names_29 rfl (lv_at hl 3 rfl) ?_
  refine lv_iconst (v := 2) hx hb dX9_names_30 (by decide) ?_
  refine lv_icmp_ne (tgt := 39) hx hb dX9_names_31 (by decide) (fun _ => ?_) (fun c_ => absurd c_ (by decide))
  refine lv_iload_n hx hb dX9_names_39 rfl (lv_at hl 3 rfl) ?_
  refine lv_iconst (v := 3) hx hb dX9_names_40 (by decide) ?_
  refine lv_icmp_ne (tgt := 51) hx hb dX9_names_41 (by decide) (fun _ => ?_) (fun c_ => absurd c_ (by decide))
  refine lv_iload_n hx hb dX9_names_51 rfl (lv_at hl 3 rfl) ?_
  refine lv_iconst (v := 4) hx hb dX9_names_52 (by decide) ?_
  refine lv_bipush (v := 8) hx hb dX9_names_53 (by decide) ?_
  refine r_ki hw (r_runS (rest := []) hC hw (c_X9_isIn l _ _ 34 4 8) 3 gX9_names_X9_isIn rfl rfl rfl (by decide +kernel) ⟨Nat.le_of_ble_eq_true rfl, Nat.le_of_ble_eq_true rfl⟩ rfl hl.1 rfl (Nat.le_of_ble_eq_true rfl) dX9_names_55 ⟨Nat.le_of_ble_eq_true rfl, Nat.le_of_ble_eq_true rfl⟩) (fun r_2 u_3 H locs h_1 hw => ?_)
  rw [if_neg (by decide)] at h_1
  subst h_1
  refine lv_if_ne (tgt := 67) hx hb dX9_names_58 (by decide) (fun c_ => absurd (by decide) c_) (fun _ => ?_)
  refine lv_iload_n hx hb dX9_names_61 rfl (lv_at hl 3 rfl) ?_
  refine lv_bipush (v := 25) hx hb dX9_names_62 (by decide) ?_
  refine lv_icmp_ne (tgt := 77) hx hb dX9_names_64 (by decide) (fun _ => ?_) (fun c_ => absurd c_ (by decide))
  refine lv_iload_n hx hb dX9_names_77 rfl (lv_at hl 3 rfl) ?_
  refine lv_bipush (v := 9) hx hb dX9_names_78 (by decide) ?_
  refine lv_bipush (v := 12) hx hb dX9_names_80 (by decide) ?_
  refine r_ki hw (r_runS (rest := []) hC hw (c_X9_isIn l _ _ 34 9 12) 3 gX9_names_X9_isIn rfl rfl rfl (by decide +kernel) ⟨Nat.le_of_ble_eq_true rfl, Nat.le_of_ble_eq_true rfl⟩ rfl hl.1 rfl (Nat.le_of_ble_eq_true rfl) dX9_names_82 ⟨Nat.le_of_ble_eq_true rfl, Nat.le_of_ble_eq_true rfl⟩) (fun r_5 u_6 H locs h_4 hw => ?_)
  rw [if_neg (by decide)] at h_4
  subst h_4
  refine lv_if_eq (tgt := 98) hx hb dX9_names_85 (by decide) (fun _ => ?_) (fun c_ => absurd (by decide) c_)
  refine lv_iload_n hx hb dX9_names_98 rfl (lv_at hl 3 rfl) ?_
  refine lv_bipush (v := 13) hx hb dX9_names_99 (by decide) ?_
  refine lv_bipush (v := 24) hx hb dX9_names_101 (by decide) ?_
  refine r_ki hw (r_runS (rest := []) hC hw (c_X9_isIn l _ _ 34 13 24) 3 gX9_names_X9_isIn rfl rfl rfl (by decide +kernel) ⟨Nat.le_of_ble_eq_true rfl, Nat.le_of_ble_eq_true rfl⟩ rfl hl.1 rfl (Nat.le_of_ble_eq_true rfl) dX9_names_103 ⟨Nat.le_of_ble_eq_true rfl, Nat.le_of_ble_eq_true rfl⟩) (fun r_8 u_9 H locs h_7 hw => ?_)
  rw [if_neg (by decide)] at h_7
  subst h_7
  refine lv_if_ne (tgt := 115) hx hb dX9_names_106 (by decide) (fun c_ => absurd (by decide) c_) (fun _ => ?_)
  refine lv_iload_n hx hb dX9_names_109 rfl (lv_at hl 3 rfl) ?_
  refine lv_bipush (v := 26) hx hb dX9_names_110 (by decide) ?_
  refine lv_icmp_ne (tgt := 270) hx hb dX9_names_112 (by decide) (fun _ => ?_) (fun c_ => absurd c_ (by decide))
  refine lv_iload_n hx hb dX9_names_270 rfl (lv_at hl 3 rfl) ?_
  refine lv_bipush (v := 27) hx hb dX9_names_271 (by decide) ?_
  refine lv_icmp_eq (tgt := 282) hx hb dX9_names_273 (by decide) (fun c_ => absurd c_ (by decide)) (fun _ => ?_)
  refine lv_iload_n hx hb dX9_names_276 rfl (lv_at hl 3 rfl) ?_
  refine lv_bipush (v := 29) hx hb dX9_names_277 (by decide) ?_
  refine lv_icmp_ne (tgt := 288) hx hb dX9_names_279 (by decide) (fun _ => ?_) (fun c_ => absurd c_ (by decide))
  refine lv_iload_n hx hb dX9_names_288 rfl (lv_at hl 3 rfl) ?_
  refine lv_bipush (v := 28) hx hb dX9_names_289 (by decide) ?_
  refine lv_icmp_ne (tgt := 302) hx hb dX9_names_291 (by decide) (fun _ => ?_) (fun c_ => absurd c_ (by decide))
  refine lv_iload_n hx hb dX9_names_302 rfl (lv_at hl 3 rfl) ?_
  refine lv_bipush (v := 31) hx hb dX9_names_303 (by decide) ?_
  refine lv_bipush (v := 38) hx hb dX9_names_305 (by decide) ?_
  refine r_ki hw (r_runS (rest := []) hC hw (c_X9_isIn l _ _ 34 31 38) 3 gX9_names_X9_isIn rfl rfl rfl (by decide +kernel) ⟨Nat.le_of_ble_eq_true rfl, Nat.le_of_ble_eq_true rfl⟩ rfl hl.1 rfl (Nat.le_of_ble_eq_true rfl) dX9_names_307 ⟨Nat.le_of_ble_eq_true rfl, Nat.le_of_ble_eq_true rfl⟩) (fun r_11 u_12 H locs h_10 hw => ?_)
  rw [if_pos (by decide)] at h_10
  subst h_10
  refine lv_if_eq (tgt := 411) hx hb dX9_names_310 (by decide) (fun c_ => absurd c_ (by decide)) (fun _ => ?_)
  refine lv_iload_n hx hb dX9_names_313 rfl (lv_at hl 3 rfl) ?_
  refine lv_bipush (v := 36) hx hb dX9_names_314 (by decide) ?_
  refine lv_icmp_lt (tgt := 323) hx hb dX9_names_316 (by decide) (fun _ => ?_) (fun c_ => absurd (by decide) c_)
  refine lv_iconst (v := 5) hx hb dX9_names_323 (by decide) ?_
  refine lv_istore_n (lv' := [(2, .int 5), (4, .int 0), (3, .int 0), (0, .int 34), (1, .int wh)]) hx hb dX9_names_324 rfl hl (by decide) rfl (fun ls hl => ?_)
  refine lv_iload_n hx hb dX9_names_325 rfl (lv_at hl 3 rfl) ?_
  refine lv_bipush (v := 31) hx hb dX9_names_326 (by decide) ?_
  refine lv_icmp_ne (tgt := 336) hx hb dX9_names_328 (by decide) (fun _ => ?_) (fun c_ => absurd c_ (by decide))
  refine lv_iload_n hx hb dX9_names_336 rfl (lv_at hl 3 rfl) ?_
  refine lv_bipush (v := 32) hx hb dX9_names_337 (by decide) ?_
  refine lv_icmp_ne (tgt := 346) hx hb dX9_names_339 (by decide) (fun _ => ?_) (fun c_ => absurd c_ (by decide))
  refine lv_iload_n hx hb dX9_names_346 rfl (lv_at hl 3 rfl) ?_
  refine lv_bipush (v := 33) hx hb dX9_names_347 (by decide) ?_
  refine lv_icmp_ne (tgt := 357) hx hb dX9_names_349 (by decide) (fun _ => ?_) (fun c_ => absurd c_ (by decide))
  refine lv_iload_n hx hb dX9_names_357 rfl (lv_at hl 3 rfl) ?_
  refine lv_bipush (v := 35) hx hb dX9_names_358 (by decide) ?_
  refine lv_icmp_ne (tgt := 367) hx hb dX9_names_360 (by decide) (fun _ => ?_) (fun c_ => absurd c_ (by decide))
  refine lv_iconst (v := 5) hx hb dX9_names_367 (by decide) ?_
  refine lv_istore_n (lv' := [(3, .int 5), (2, .int 5), (4, .int 0), (0, .int 34), (1, .int wh)]) hx hb dX9_names_368 rfl hl (by decide) rfl (fun ls hl => ?_)
  refine lv_iload_n hx hb dX9_names_369 rfl (lv_at hl 3 rfl) ?_
  refine lv_bipush (v := 31) hx hb dX9_names_370 (by decide) ?_
  refine lv_bipush (v := 33) hx hb dX9_names_372 (by decide) ?_
  refine r_ki hw (r_runS (rest := []) hC hw (c_X9_isIn l _ _ 34 31 33) 3 gX9_names_X9_isIn rfl rfl rfl (by decide +kernel) ⟨Nat.le_of_ble_eq_true rfl, Nat.le_of_ble_eq_true rfl⟩ rfl hl.1 rfl (Nat.le_of_ble_eq_true rfl) dX9_names_374 ⟨Nat.le_of_ble_eq_true rfl, Nat.le_of_ble_eq_true rfl⟩) (fun r_14 u_15 H locs h_13 hw => ?_)
  rw [if_neg (by decide)] at h_13
  subst h_13
  refine lv_if_eq (tgt := 384) hx hb dX9_names_377 (by decide) (fun _ => ?_) (fun c_ => absurd (by decide) c_)
  refine lv_iload_n hx hb dX9_names_384 rfl (lv_at hl 3 rfl) ?_
  refine lv_bipush (v := 36) hx hb dX9_names_385 (by decide) ?_
  refine lv_icmp_ne (tgt := 394) hx hb dX9_names_387 (by decide) (fun _ => ?_) (fun c_ => absurd c_ (by decide))
  refine lv_iload_n hx hb dX9_names_394 rfl (lv_at hl 3 rfl) ?_
  refine lv_bipush (v := 37) hx hb dX9_names_395 (by decide) ?_
  refine lv_icmp_ne (tgt := 405) hx hb dX9_names_397 (by decide) (fun _ => ?_) (fun c_ => absurd c_ (by decide))
  refine lv_iconst (v := 0) hx hb dX9_names_405 (by decide) ?_
  refine lv_istore (lv' := [(4, .int 0), (3, .int 5), (2, .int 5), (0, .int 34), (1, .int wh)]) hx hb dX9_names_406 hl (by decide) rfl (fun ls hl => ?_)
  refine lv_goto (tgt := 605) hx hb dX9_names_408 (by decide) ?_
  refine lv_iload_n hx hb dX9_names_605 rfl (lv_at hl 4 rfl) ?_
  refine lv_if_ne (tgt := 613) hx hb dX9_names_606 (by decide) (fun c_16 => ?_) (fun c_16 => ?_)
  · refine lv_iload_n hx hb dX9_names_613 rfl (lv_at hl 4 rfl) ?_
    refine lv_iconst (v := 1) hx hb dX9_names_614 (by decide) ?_
    refine lv_icmp_ne (tgt := 622) hx hb dX9_names_615 (by decide) (fun c_17 => ?_) (fun c_17 => ?_)
    · refine lv_iload hx hb dX9_names_622 (lv_at hl 0 rfl) ?_
      exact r_iret hC hr hlk hw () rfl ((if_neg c_16).trans (if_neg c_17)).symm (Nat.le_of_ble_eq_true rfl) (Nat.le_of_ble_eq_true rfl) dX9_names_624
    · refine lv_iload_n hx hb dX9_names_618 rfl (lv_at hl 1 rfl) ?_
      refine lv_goto (tgt := 624) hx hb dX9_names_619 (by decide) ?_
      exact r_iret hC hr hlk hw () rfl ((if_neg c_16).trans (if_pos c_17)).symm (Nat.le_of_ble_eq_true rfl) (Nat.le_of_ble_eq_true rfl) dX9_names_624
  · refine lv_iload_n hx hb dX9_names_609 rfl (lv_at hl 2 rfl) ?_
    refine lv_goto (tgt := 624) hx hb dX9_names_610 (by decide) ?_
    exact r_iret hC hr hlk hw () rfl (if_pos c_16).symm (Nat.le_of_ble_eq_true rfl) (Nat.le_of_ble_eq_true rfl) dX9_names_624

set_option maxHeartbeats 4000000 in
set_option maxRecDepth 100000 in
theorem c_X9_names_35 (l : Launch) {D : va_G} {q : Nat → ClassId} (w : wT) (sz : Nat) (wh : Int32) : Met l yX9_names wsX9_names (rmz 1 22) (va_Pc [.int 35, .int wh] (rPre D q w sz)) (va_Qi (fun (r : Int32) (u : Unit) => r = if wh = 0 then 5 else if wh = 1 then 0 else 0) (fun (u : Unit) tt => rPo D (rA w sz) w tt) (rA w sz)) 0 0 (rA w sz) := by
  refine r_start (cc := cX9_names) (maxL := 6) (ret := (some .int)) (by decide) rfl (Nat.le_of_ble_eq_true rfl) ?_
  intro p e s m below meth c ls hC hr hlk hnm hsz hw hl
  have hx := hC.1
  have hb := hC.2.1
  have hl : lv_has ls 6 [(0, .int 35), (1, .int wh)] := hl
  refine lv_iconst (v := 0) hx hb dX9_names_0 (by decide) ?_
  refine lv_istore_n (lv' := [(2, .int 0), (0, .int 35), (1, .int wh)]) hx hb dX9_names_1 rfl hl (by decide) rfl (fun ls hl => ?_)
  refine lv_iconst (v := 0) hx hb dX9_names_2 (by decide) ?_
  refine lv_istore_n (lv' := [(3, .int 0), (2, .int 0), (0, .int 35), (1, .int wh)]) hx hb dX9_names_3 rfl hl (by decide) rfl (fun ls hl => ?_)
  refine lv_iconst (v := 0) hx hb dX9_names_4 (by decide) ?_
  refine lv_istore (lv' := [(4, .int 0), (3, .int 0), (2, .int 0), (0, .int 35), (1, .int wh)]) hx hb dX9_names_5 hl (by decide) rfl (fun ls hl => ?_)
  refine lv_iload_n hx hb dX9_names_7 rfl (lv_at hl 3 rfl) ?_
  refine lv_iconst (v := 1) hx hb dX9_names_8 (by decide) ?_
  refine lv_icmp_eq (tgt := 24) hx hb dX9_names_9 (by decide) (fun c_ => absurd c_ (by decide)) (fun _ => ?_)
  refine lv_iload_n hx hb dX9_names_12 rfl (lv_at hl 3 rfl) ?_
  refine lv_bipush (v := 72) hx hb dX9_names_13 (by decide) ?_
  refine lv_icmp_eq (tgt := 24) hx hb dX9_names_15 (by decide) (fun c_ => absurd c_ (by decide)) (fun _ => ?_)
  refine lv_iload_n hx hb dX9_names_18 rfl (lv_at hl 3 rfl) ?_
  refine lv_bipush (v := 73) hx hb dX9_names_19 (by decide) ?_
  refine lv_icmp_ne (tgt := 29) hx hb dX9_names_21 (by decide) (fun _ => ?_) (fun c_ => absurd c_ (by decide))
  refine lv_iload_n hx hb dX9_names_29 rfl (lv_at hl 3 rfl) ?_
  refine lv_iconst (v := 2) hx hb dX9_names_30 (by decide) ?_
  refine lv_icmp_ne (tgt := 39) hx hb dX9_names_31 (by decide) (fun _ => ?_) (fun c_ => absurd c_ (by decide))
  refine lv_iload_n hx hb dX9_names_39 rfl (lv_at hl 3 rfl) ?_
  refine lv_iconst (v := 3) hx hb dX9_names_40 (by decide) ?_
  refine lv_icmp_ne (tgt := 51) hx hb dX9_names_41 (by decide) (fun _ => ?_) (fun c_ => absurd c_ (by decide))
  refine lv_iload_n hx hb dX9_names_51 rfl (lv_at hl 3 rfl) ?_
  refine lv_iconst (v := 4) hx hb dX9_names_52 (by decide) ?_
  refine lv_bipush (v := 8) hx hb dX9_names_53 (by decide) ?_
  refine r_ki hw (r_runS (rest := []) hC hw (c_X9_isIn l _ _ 35 4 8) 3 gX9_names_X9_isIn rfl rfl rfl (by decide +kernel) ⟨Nat.le_of_ble_eq_true rfl, Nat.le_of_ble_eq_true rfl⟩ rfl hl.1 rfl (Nat.le_of_ble_eq_true rfl) dX9_names_55 ⟨Nat.le_of_ble_eq_true rfl, Nat.le_of_ble_eq_true rfl⟩) (fun r_2 u_3 H locs h_1 hw => ?_)
  rw [if_neg (by decide)] at h_1
  subst h_1
  refine lv_if_ne (tgt := 67) hx hb dX9_names_58 (by decide) (fun c_ => absurd (by decide) c_) (fun _ => ?_)
  refine lv_iload_n hx hb dX9_names_61 rfl (lv_at hl 3 rfl) ?_
  refine lv_bipush (v := 25) hx hb dX9_names_62 (by decide) ?_
  refine lv_icmp_ne (tgt := 77) hx hb dX9_names_64 (by decide) (fun _ => ?_) (fun c_ => absurd c_ (by decide))
  refine lv_iload_n hx hb dX9_names_77 rfl (lv_at hl 3 rfl) ?_
  refine lv_bipush (v := 9) hx hb dX9_names_78 (by decide) ?_
  refine lv_bipush (v := 12) hx hb dX9_names_80 (by decide) ?_
  refine r_ki hw (r_runS (rest := []) hC hw (c_X9_isIn l _ _ 35 9 12) 3 gX9_names_X9_isIn rfl rfl rfl (by decide +kernel) ⟨Nat.le_of_ble_eq_true rfl, Nat.le_of_ble_eq_true rfl⟩ rfl hl.1 rfl (Nat.le_of_ble_eq_true rfl) dX9_names_82 ⟨Nat.le_of_ble_eq_true rfl, Nat.le_of_ble_eq_true rfl⟩) (fun r_5 u_6 H locs h_4 hw => ?_)
  rw [if_neg (by decide)] at h_4
  subst h_4
  refine lv_if_eq (tgt := 98) hx hb dX9_names_85 (by decide) (fun _ => ?_) (fun c_ => absurd (by decide) c_)
  refine lv_iload_n hx hb dX9_names_98 rfl (lv_at hl 3 rfl) ?_
  refine lv_bipush (v := 13) hx hb dX9_names_99 (by decide) ?_
  refine lv_bipush (v := 24) hx hb dX9_names_101 (by decide) ?_
  refine r_ki hw (r_runS (rest := []) hC hw (c_X9_isIn l _ _ 35 13 24) 3 gX9_names_X9_isIn rfl rfl rfl (by decide +kernel) ⟨Nat.le_of_ble_eq_true rfl, Nat.le_of_ble_eq_true rfl⟩ rfl hl.1 rfl (Nat.le_of_ble_eq_true rfl) dX9_names_103 ⟨Nat.le_of_ble_eq_true rfl, Nat.le_of_ble_eq_true rfl⟩) (fun r_8 u_9 H locs h_7 hw => ?_)
  rw [if_neg (by decide)] at h_7
  subst h_7
  refine lv_if_ne (tgt := 115) hx hb dX9_names_106 (by decide) (fun c_ => absurd (by decide) c_) (fun _ => ?_)
  refine lv_iload_n hx hb dX9_names_109 rfl (lv_at hl 3 rfl) ?_
  refine lv_bipush (v := 26) hx hb dX9_names_110 (by decide) ?_
  refine lv_icmp_ne (tgt := 270) hx hb dX9_names_112 (by decide) (fun _ => ?_) (fun c_ => absurd c_ (by decide))
  refine lv_iload_n hx hb dX9_names_270 rfl (lv_at hl 3 rfl) ?_
  refine lv_bipush (v := 27) hx hb dX9_names_271 (by decide) ?_
  refine lv_icmp_eq (tgt := 282) hx hb dX9_names_273 (by decide) (fun c_ => absurd c_ (by decide)) (fun _ => ?_)
  refine lv_iload_n hx hb dX9_names_276 rfl (lv_at hl 3 rfl) ?_
  refine lv_bipush (v := 29) hx hb dX9_names_277 (by decide) ?_
  refine lv_icmp_ne (tgt := 288) hx hb dX9_names_279 (by decide) (fun _ => ?_) (fun c_ => absurd c_ (by decide))
  refine lv_iload_n hx hb dX9_names_288 rfl (lv_at hl 3 rfl) ?_
  refine lv_bipush (v := 28) hx hb dX9_names_289 (by decide) ?_
  refine lv_icmp_ne (tgt := 302) hx hb dX9_names_291 (by decide) (fun _ => ?_) (fun c_ => absurd c_ (by decide))
  refine lv_iload_n hx hb dX9_names_302 rfl (lv_at hl 3 rfl) ?_
  refine lv_bipush (v := 31) hx hb dX9_names_303 (by decide) ?_
  refine lv_bipush (v := 38) hx hb dX9_names_305 (by decide) ?_
  refine r_ki hw (r_runS (rest := []) hC hw (c_X9_isIn l _ _ 35 31 38) 3 gX9_names_X9_isIn rfl rfl rfl (by decide +kernel) ⟨Nat.le_of_ble_eq_true rfl, Nat.le_of_ble_eq_true rfl⟩ rfl hl.1 rfl (Nat.le_of_ble_eq_true rfl) dX9_names_307 ⟨Nat.le_of_ble_eq_true rfl, Nat.le_of_ble_eq_true rfl⟩) (fun r_11 u_12 H locs h_10 hw => ?_)
  rw [if_pos (by decide)] at h_10
  subst h_10
  refine lv_if_eq (tgt := 411) hx hb dX9_names_310 (by decide) (fun c_ => absurd c_ (by decide)) (fun _ => ?_)
  refine lv_iload_n hx hb dX9_names_313 rfl (lv_at hl 3 rfl) ?_
  refine lv_bipush (v := 36) hx hb dX9_names_314 (by decide) ?_
  refine lv_icmp_lt (tgt := 323) hx hb dX9_names_316 (by decide) (fun _ => ?_) (fun c_ => absurd (by decide) c_)
  refine lv_iconst (v := 5) hx hb dX9_names_323 (by decide) ?_
  refine lv_istore_n (lv' := [(2, .int 5), (4, .int 0), (3, .int 0), (0, .int 35), (1, .int wh)]) hx hb dX9_names_324 rfl hl (by decide) rfl (fun ls hl => ?_)
  refine lv_iload_n hx hb dX9_names_325 rfl (lv_at hl 3 rfl) ?_
  refine lv_bipush (v := 31) hx hb dX9_names_326 (by decide) ?_
  refine lv_icmp_ne (tgt := 336) hx hb dX9_names_328 (by decide) (fun _ => ?_) (fun c_ => absurd c_ (by decide))
  refine lv_iload_n hx hb dX9_names_336 rfl (lv_at hl 3 rfl) ?_
  refine lv_bipush (v := 32) hx hb dX9_names_337 (by decide) ?_
  refine lv_icmp_ne (tgt := 346) hx hb dX9_names_339 (by decide) (fun _ => ?_) (fun c_ => absurd c_ (by decide))
  refine lv_iload_n hx hb dX9_names_346 rfl (lv_at hl 3 rfl) ?_
  refine lv_bipush (v := 33) hx hb dX9_names_347 (by decide) ?_
  refine lv_icmp_ne (tgt := 357) hx hb dX9_names_349 (by decide) (fun _ => ?_) (fun c_ => absurd c_ (by decide))
  refine lv_iload_n hx hb dX9_names_357 rfl (lv_at hl 3 rfl) ?_
  refine lv_bipush (v := 35) hx hb dX9_names_358 (by decide) ?_
  refine lv_icmp_ne (tgt := 367) hx hb dX9_names_360 (by decide) (fun c_ => absurd (by decide) c_) (fun _ => ?_)
  refine lv_iconst (v := 0) hx hb dX9_names_363 (by decide) ?_
  refine lv_goto (tgt := 368) hx hb dX9_names_364 (by decide) ?_
  refine lv_istore_n (lv' := [(3, .int 0), (2, .int 5), (4, .int 0), (0, .int 35), (1, .int wh)]) hx hb dX9_names_368 rfl hl (by decide) rfl (fun ls hl => ?_)
  refine lv_iload_n hx hb dX9_names_369 rfl (lv_at hl 3 rfl) ?_
  refine lv_bipush (v := 31) hx hb dX9_names_370 (by decide) ?_
  refine lv_bipush (v := 33) hx hb dX9_names_372 (by decide) ?_
  refine r_ki hw (r_runS (rest := []) hC hw (c_X9_isIn l _ _ 35 31 33) 3 gX9_names_X9_isIn rfl rfl rfl (by decide +kernel) ⟨Nat.le_of_ble_eq_true rfl, Nat.le_of_ble_eq_true rfl⟩ rfl hl.1 rfl (Nat.le_of_ble_eq_true rfl) dX9_names_374 ⟨Nat.le_of_ble_eq_true rfl, Nat.le_of_ble_eq_true rfl⟩) (fun r_14 u_15 H locs h_13 hw => ?_)
  rw [if_neg (by decide)] at h_13
  subst h_13
  refine lv_if_eq (tgt := 384) hx hb dX9_names_377 (by decide) (fun _ => ?_) (fun c_ => absurd (by decide) c_)
  refine lv_iload_n hx hb dX9_names_384 rfl (lv_at hl 3 rfl) ?_
  refine lv_bipush (v := 36) hx hb dX9_names_385 (by decide) ?_
  refine lv_icmp_ne (tgt := 394) hx hb dX9_names_387 (by decide) (fun _ => ?_) (fun c_ => absurd c_ (by decide))
  refine lv_iload_n hx hb dX9_names_394 rfl (lv_at hl 3 rfl) ?_
  refine lv_bipush (v := 37) hx hb dX9_names_395 (by decide) ?_
  refine lv_icmp_ne (tgt := 405) hx hb dX9_names_397 (by decide) (fun _ => ?_) (fun c_ => absurd c_ (by decide))
  refine lv_iconst (v := 0) hx hb dX9_names_405 (by decide) ?_
  refine lv_istore (lv' := [(4, .int 0), (3, .int 0), (2, .int 5), (0, .int 35), (1, .int wh)]) hx hb dX9_names_406 hl (by decide) rfl (fun ls hl => ?_)
  refine lv_goto (tgt := 605) hx hb dX9_names_408 (by decide) ?_
  refine lv_iload_n hx hb dX9_names_605 rfl (lv_at hl 4 rfl) ?_
  refine lv_if_ne (tgt := 613) hx hb dX9_names_606 (by decide) (fun c_16 => ?_) (fun c_16 => ?_)
  · refine lv_iload_n hx hb dX9_names_613 rfl (lv_at hl 4 rfl) ?_
    refine lv_iconst (v := 1) hx hb dX9_names_614 (by decide) ?_
    refine lv_icmp_ne (tgt := 622) hx hb dX9_names_615 (by decide) (fun c_17 => ?_) (fun c_17 => ?_)
    · refine lv_iload hx hb dX9_names_622 (lv_at hl 0 rfl) ?_
      exact r_iret hC hr hlk hw () rfl ((if_neg c_16).trans (if_neg c_17)).symm (Nat.le_of_ble_eq_true rfl) (Nat.le_of_ble_eq_true rfl) dX9_names_624
    · refine lv_iload_n hx hb dX9_names_618 rfl (lv_at hl 1 rfl) ?_
      refine lv_goto (tgt := 624) hx hb dX9_names_619 (by decide) ?_
      exact r_iret hC hr hlk hw () rfl ((if_neg c_16).trans (if_pos c_17)).symm (Nat.le_of_ble_eq_true rfl) (Nat.le_of_ble_eq_true rfl) dX9_names_624
  · refine lv_iload_n hx hb dX9_names_609 rfl (lv_at hl 2 rfl) ?_
    refine lv_goto (tgt := 624) hx hb dX9_names_610 (by decide) ?_
    exact r_iret hC hr hlk hw () rfl (if_pos c_16).symm (Nat.le_of_ble_eq_true rfl) (Nat.le_of_ble_eq_true rfl) dX9_names_624

set_option maxHeartbeats 4000000 in
set_option maxRecDepth 100000 in
theorem c_X9_names_36 (l : Launch) {D : va_G} {q : Nat → ClassId} (w : wT) (sz : Nat) (wh : Int32) : Met l yX9_names wsX9_names (rmz 1 22) (va_Pc [.int 36, .int wh] (rPre D q w sz)) (va_Qi (fun (r : Int32) (u : Unit) => r = if wh = 0 then 1 else if wh = 1 then 5 else 5) (fun (u : Unit) tt => rPo D (rA w sz) w tt) (rA w sz)) 0 0 (rA w sz) := by
  refine r_start (cc := cX9_names) (maxL := 6) (ret := (some .int)) (by decide) rfl (Nat.le_of_ble_eq_true rfl) ?_
  intro p e s m below meth c ls hC hr hlk hnm hsz hw hl
  have hx := hC.1
  have hb := hC.2.1
  have hl : lv_has ls 6 [(0, .int 36), (1, .int wh)] := hl
  refine lv_iconst (v := 0) hx hb dX9_names_0 (by decide) ?_
  refine lv_istore_n (lv' := [(2, .int 0), (0, .int 36), (1, .int wh)]) hx hb dX9_names_1 rfl hl (by decide) rfl (fun ls hl => ?_)
  refine lv_iconst (v := 0) hx hb dX9_names_2 (by decide) ?_
  refine lv_istore_n (lv' := [(3, .int 0), (2, .int 0), (0, .int 36), (1, .int wh)]) hx hb dX9_names_3 rfl hl (by decide) rfl (fun ls hl => ?_)
  refine lv_iconst (v := 0) hx hb dX9_names_4 (by decide) ?_
  refine lv_istore (lv' := [(4, .int 0), (3, .int 0), (2, .int 0), (0, .int 36), (1, .int wh)]) hx hb dX9_names_5 hl (by decide) rfl (fun ls hl => ?_)
  refine lv_iload_n hx hb dX9_names_7 rfl (lv_at hl 3 rfl) ?_
  refine lv_iconst (v := 1) hx hb dX9_names_8 (by decide) ?_
  refine lv_icmp_eq (tgt := 24) hx hb dX9_names_9 (by decide) (fun c_ => absurd c_ (by decide)) (fun _ => ?_)
  refine lv_iload_n hx hb dX9_names_12 rfl (lv_at hl 3 rfl) ?_
  refine lv_bipush (v := 72) hx hb dX9_names_13 (by decide) ?_
  refine lv_icmp_eq (tgt := 24) hx hb dX9_names_15 (by decide) (fun c_ => absurd c_ (by decide)) (fun _ => ?_)
  refine lv_iload_n hx hb dX9_names_18 rfl (lv_at hl 3 rfl) ?_
  refine lv_bipush (v := 73) hx hb dX9_names_19 (by decide) ?_
  refine lv_icmp_ne (tgt := 29) hx hb dX9_names_21 (by decide) (fun _ => ?_) (fun c_ => absurd c_ (by decide))
  refine lv_iload_n hx hb dX9_names_29 rfl (lv_at hl 3 rfl) ?_
  refine lv_iconst (v := 2) hx hb dX9_names_30 (by decide) ?_
  refine lv_icmp_ne (tgt := 39) hx hb dX9_names_31 (by decide) (fun _ => ?_) (fun c_ => absurd c_ (by decide))
  refine lv_iload_n hx hb dX9_names_39 rfl (lv_at hl 3 rfl) ?_
  refine lv_iconst (v := 3) hx hb dX9_names_40 (by decide) ?_
  refine lv_icmp_ne (tgt := 51) hx hb dX9_names_41 (by decide) (fun _ => ?_) (fun c_ => absurd c_ (by decide))
  refine lv_iload_n hx hb dX9_names_51 rfl (lv_at hl 3 rfl) ?_
  refine lv_iconst (v := 4) hx hb dX9_names_52 (by decide) ?_
  refine lv_bipush (v := 8) hx hb dX9_names_53 (by decide) ?_
  refine r_ki hw (r_runS (rest := []) hC hw (c_X9_isIn l _ _ 36 4 8) 3 gX9_names_X9_isIn rfl rfl rfl (by decide +kernel) ⟨Nat.le_of_ble_eq_true rfl, Nat.le_of_ble_eq_true rfl⟩ rfl hl.1 rfl (Nat.le_of_ble_eq_true rfl) dX9_names_55 ⟨Nat.le_of_ble_eq_true rfl, Nat.le_of_ble_eq_true rfl⟩) (fun r_2 u_3 H locs h_1 hw => ?_)
  rw [if_neg (by decide)] at h_1
  subst h_1
  refine lv_if_ne (tgt := 67) hx hb dX9_names_58 (by decide) (fun c_ => absurd (by decide) c_) (fun _ => ?_)
  refine lv_iload_n hx hb dX9_names_61 rfl (lv_at hl 3 rfl) ?_
  refine lv_bipush (v := 25) hx hb dX9_names_62 (by decide) ?_
  refine lv_icmp_ne (tgt := 77) hx hb dX9_names_64 (by decide) (fun _ => ?_) (fun c_ => absurd c_ (by decide))
  refine lv_iload_n hx hb dX9_names_77 rfl (lv_at hl 3 rfl) ?_
  refine lv_bipush (v := 9) hx hb dX9_names_78 (by decide) ?_
  refine lv_bipush (v := 12) hx hb dX9_names_80 (by decide) ?_
  refine r_ki hw (r_runS (rest := []) hC hw (c_X9_isIn l _ _ 36 9 12) 3 gX9_names_X9_isIn rfl rfl rfl (by decide +kernel) ⟨Nat.le_of_ble_eq_true rfl, Nat.le_of_ble_eq_true rfl⟩ rfl hl.1 rfl (Nat.le_of_ble_eq_true rfl) dX9_names_82 ⟨Nat.le_of_ble_eq_true rfl, Nat.le_of_ble_eq_true rfl⟩) (fun r_5 u_6 H locs h_4 hw => ?_)
  rw [if_neg (by decide)] at h_4
  subst h_4
  refine lv_if_eq (tgt := 98) hx hb dX9_names_85 (by decide) (fun _ => ?_) (fun c_ => absurd (by decide) c_)
  refine lv_iload_n hx hb dX9_names_98 rfl (lv_at hl 3 rfl) ?_
  refine lv_bipush (v := 13) hx hb dX9_names_99 (by decide) ?_
  refine lv_bipush (v := 24) hx hb dX9_names_101 (by decide) ?_
  refine r_ki hw (r_runS (rest := []) hC hw (c_X9_isIn l _ _ 36 13 24) 3 gX9_names_X9_isIn rfl rfl rfl (by decide +kernel) ⟨Nat.le_of_ble_eq_true rfl, Nat.le_of_ble_eq_true rfl⟩ rfl hl.1 rfl (Nat.le_of_ble_eq_true rfl) dX9_names_103 ⟨Nat.le_of_ble_eq_true rfl, Nat.le_of_ble_eq_true rfl⟩) (fun r_8 u_9 H locs h_7 hw => ?_)
  rw [if_neg (by decide)] at h_7
  subst h_7
  refine lv_if_ne (tgt := 115) hx hb dX9_names_106 (by decide) (fun c_ => absurd (by decide) c_) (fun _ => ?_)
  refine lv_iload_n hx hb dX9_names_109 rfl (lv_at hl 3 rfl) ?_
  refine lv_bipush (v := 26) hx hb dX9_names_110 (by decide) ?_
  refine lv_icmp_ne (tgt := 270) hx hb dX9_names_112 (by decide) (fun _ => ?_) (fun c_ => absurd c_ (by decide))
  refine lv_iload_n hx hb dX9_names_270 rfl (lv_at hl 3 rfl) ?_
  refine lv_bipush (v := 27) hx hb dX9_names_271 (by decide) ?_
  refine lv_icmp_eq (tgt := 282) hx hb dX9_names_273 (by decide) (fun c_ => absurd c_ (by decide)) (fun _ => ?_)
  refine lv_iload_n hx hb dX9_names_276 rfl (lv_at hl 3 rfl) ?_
  refine lv_bipush (v := 29) hx hb dX9_names_277 (by decide) ?_
  refine lv_icmp_ne (tgt := 288) hx hb dX9_names_279 (by decide) (fun _ => ?_) (fun c_ => absurd c_ (by decide))
  refine lv_iload_n hx hb dX9_names_288 rfl (lv_at hl 3 rfl) ?_
  refine lv_bipush (v := 28) hx hb dX9_names_289 (by decide) ?_
  refine lv_icmp_ne (tgt := 302) hx hb dX9_names_291 (by decide) (fun _ => ?_) (fun c_ => absurd c_ (by decide))
  refine lv_iload_n hx hb dX9_names_302 rfl (lv_at hl 3 rfl) ?_
  refine lv_bipush (v := 31) hx hb dX9_names_303 (by decide) ?_
  refine lv_bipush (v := 38) hx hb dX9_names_305 (by decide) ?_
  refine r_ki hw (r_runS (rest := []) hC hw (c_X9_isIn l _ _ 36 31 38) 3 gX9_names_X9_isIn rfl rfl rfl (by decide +kernel) ⟨Nat.le_of_ble_eq_true rfl, Nat.le_of_ble_eq_true rfl⟩ rfl hl.1 rfl (Nat.le_of_ble_eq_true rfl) dX9_names_307 ⟨Nat.le_of_ble_eq_true rfl, Nat.le_of_ble_eq_true rfl⟩) (fun r_11 u_12 H locs h_10 hw => ?_)
  rw [if_pos (by decide)] at h_10
  subst h_10
  refine lv_if_eq (tgt := 411) hx hb dX9_names_310 (by decide) (fun c_ => absurd c_ (by decide)) (fun _ => ?_)
  refine lv_iload_n hx hb dX9_names_313 rfl (lv_at hl 3 rfl) ?_
  refine lv_bipush (v := 36) hx hb dX9_names_314 (by decide) ?_
  refine lv_icmp_lt (tgt := 323) hx hb dX9_names_316 (by decide) (fun c_ => absurd c_ (by decide)) (fun _ => ?_)
  refine lv_iconst (v := 1) hx hb dX9_names_319 (by decide) ?_
  refine lv_goto (tgt := 324) hx hb dX9_names_320 (by decide) ?_
  refine lv_istore_n (lv' := [(2, .int 1), (4, .int 0), (3, .int 0), (0, .int 36), (1, .int wh)]) hx hb dX9_names_324 rfl hl (by decide) rfl (fun ls hl => ?_)
  refine lv_iload_n hx hb dX9_names_325 rfl (lv_at hl 3 rfl) ?_
  refine lv_bipush (v := 31) hx hb dX9_names_326 (by decide) ?_
  refine lv_icmp_ne (tgt := 336) hx hb dX9_names_328 (by decide) (fun _ => ?_) (fun c_ => absurd c_ (by decide))
  refine lv_iload_n hx hb dX9_names_336 rfl (lv_at hl 3 rfl) ?_
  refine lv_bipush (v := 32) hx hb dX9_names_337 (by decide) ?_
  refine lv_icmp_ne (tgt := 346) hx hb dX9_names_339 (by decide) (fun _ => ?_) (fun c_ => absurd c_ (by decide))
  refine lv_iload_n hx hb dX9_names_346 rfl (lv_at hl 3 rfl) ?_
  refine lv_bipush (v := 33) hx hb dX9_names_347 (by decide) ?_
  refine lv_icmp_ne (tgt := 357) hx hb dX9_names_349 (by decide) (fun _ => ?_) (fun c_ => absurd c_ (by decide))
  refine lv_iload_n hx hb dX9_names_357 rfl (lv_at hl 3 rfl) ?_
  refine lv_bipush (v := 35) hx hb dX9_names_358 (by decide) ?_
  refine lv_icmp_ne (tgt := 367) hx hb dX9_names_360 (by decide) (fun _ => ?_) (fun c_ => absurd c_ (by decide))
  refine lv_iconst (v := 5) hx hb dX9_names_367 (by decide) ?_
  refine lv_istore_n (lv' := [(3, .int 5), (2, .int 1), (4, .int 0), (0, .int 36), (1, .int wh)]) hx hb dX9_names_368 rfl hl (by decide) rfl (fun ls hl => ?_)
  refine lv_iload_n hx hb dX9_names_369 rfl (lv_at hl 3 rfl) ?_
  refine lv_bipush (v := 31) hx hb dX9_names_370 (by decide) ?_
  refine lv_bipush (v := 33) hx hb dX9_names_372 (by decide) ?_
  refine r_ki hw (r_runS (rest := []) hC hw (c_X9_isIn l _ _ 36 31 33) 3 gX9_names_X9_isIn rfl rfl rfl (by decide +kernel) ⟨Nat.le_of_ble_eq_true rfl, Nat.le_of_ble_eq_true rfl⟩ rfl hl.1 rfl (Nat.le_of_ble_eq_true rfl) dX9_names_374 ⟨Nat.le_of_ble_eq_true rfl, Nat.le_of_ble_eq_true rfl⟩) (fun r_14 u_15 H locs h_13 hw => ?_)
  rw [if_neg (by decide)] at h_13
  subst h_13
  refine lv_if_eq (tgt := 384) hx hb dX9_names_377 (by decide) (fun _ => ?_) (fun c_ => absurd (by decide) c_)
  refine lv_iload_n hx hb dX9_names_384 rfl (lv_at hl 3 rfl) ?_
  refine lv_bipush (v := 36) hx hb dX9_names_385 (by decide) ?_
  refine lv_icmp_ne (tgt := 394) hx hb dX9_names_387 (by decide) (fun c_ => absurd (by decide) c_) (fun _ => ?_)
  refine lv_iconst (v := 5) hx hb dX9_names_390 (by decide) ?_
  refine lv_goto (tgt := 406) hx hb dX9_names_391 (by decide) ?_
  refine lv_istore (lv' := [(4, .int 5), (3, .int 5), (2, .int 1), (0, .int 36), (1, .int wh)]) hx hb dX9_names_406 hl (by decide) rfl (fun ls hl => ?_)
  refine lv_goto (tgt := 605) hx hb dX9_names_408 (by decide) ?_
  refine lv_iload_n hx hb dX9_names_605 rfl (lv_at hl 4 rfl) ?_
  refine lv_if_ne (tgt := 613) hx hb dX9_names_606 (by decide) (fun c_16 => ?_) (fun c_16 => ?_)
  · refine lv_iload_n hx hb dX9_names_613 rfl (lv_at hl 4 rfl) ?_
    refine lv_iconst (v := 1) hx hb dX9_names_614 (by decide) ?_
    refine lv_icmp_ne (tgt := 622) hx hb dX9_names_615 (by decide) (fun c_17 => ?_) (fun c_17 => ?_)
    · refine lv_iload hx hb dX9_names_622 (lv_at hl 0 rfl) ?_
      exact r_iret hC hr hlk hw () rfl ((if_neg c_16).trans (if_neg c_17)).symm (Nat.le_of_ble_eq_true rfl) (Nat.le_of_ble_eq_true rfl) dX9_names_624
    · refine lv_iload_n hx hb dX9_names_618 rfl (lv_at hl 1 rfl) ?_
      refine lv_goto (tgt := 624) hx hb dX9_names_619 (by decide) ?_
      exact r_iret hC hr hlk hw () rfl ((if_neg c_16).trans (if_pos c_17)).symm (Nat.le_of_ble_eq_true rfl) (Nat.le_of_ble_eq_true rfl) dX9_names_624
  · refine lv_iload_n hx hb dX9_names_609 rfl (lv_at hl 2 rfl) ?_
    refine lv_goto (tgt := 624) hx hb dX9_names_610 (by decide) ?_
    exact r_iret hC hr hlk hw () rfl (if_pos c_16).symm (Nat.le_of_ble_eq_true rfl) (Nat.le_of_ble_eq_true rfl) dX9_names_624

set_option maxHeartbeats 4000000 in
set_option maxRecDepth 100000 in
theorem c_X9_names_37 (l : Launch) {D : va_G} {q : Nat → ClassId} (w : wT) (sz : Nat) (wh : Int32) : Met l yX9_names wsX9_names (rmz 1 22) (va_Pc [.int 37, .int wh] (rPre D q w sz)) (va_Qi (fun (r : Int32) (u : Unit) => r = if wh = 0 then 1 else if wh = 1 then 5 else 9) (fun (u : Unit) tt => rPo D (rA w sz) w tt) (rA w sz)) 0 0 (rA w sz) := by
  refine r_start (cc := cX9_names) (maxL := 6) (ret := (some .int)) (by decide) rfl (Nat.le_of_ble_eq_true rfl) ?_
  intro p e s m below meth c ls hC hr hlk hnm hsz hw hl
  have hx := hC.1
  have hb := hC.2.1
  have hl : lv_has ls 6 [(0, .int 37), (1, .int wh)] := hl
  refine lv_iconst (v := 0) hx hb dX9_names_0 (by decide) ?_
  refine lv_istore_n (lv' := [(2, .int 0), (0, .int 37), (1, .int wh)]) hx hb dX9_names_1 rfl hl (by decide) rfl (fun ls hl => ?_)
  refine lv_iconst (v := 0) hx hb dX9_names_2 (by decide) ?_
  refine lv_istore_n (lv' := [(3, .int 0), (2, .int 0), (0, .int 37), (1, .int wh)]) hx hb dX9_names_3 rfl hl (by decide) rfl (fun ls hl => ?_)
  refine lv_iconst (v := 0) hx hb dX9_names_4 (by decide) ?_
  refine lv_istore (lv' := [(4, .int 0), (3, .int 0), (2, .int 0), (0, .int 37), (1, .int wh)]) hx hb dX9_names_5 hl (by decide) rfl (fun ls hl => ?_)
  refine lv_iload_n hx hb dX9_names_7 rfl (lv_at hl 3 rfl) ?_
  refine lv_iconst (v := 1) hx hb dX9_names_8 (by decide) ?_
  refine lv_icmp_eq (tgt := 24) hx hb dX9_names_9 (by decide) (fun c_ => absurd c_ (by decide)) (fun _ => ?_)
  refine lv_iload_n hx hb dX9_names_12 rfl (lv_at hl 3 rfl) ?_
  refine lv_bipush (v := 72) hx hb dX9_names_13 (by decide) ?_
  refine lv_icmp_eq (tgt := 24) hx hb dX9_names_15 (by decide) (fun c_ => absurd c_ (by decide)) (fun _ => ?_)
  refine lv_iload_n hx hb dX9_names_18 rfl (lv_at hl 3 rfl) ?_
  refine lv_bipush (v := 73) hx hb dX9_names_19 (by decide) ?_
  refine lv_icmp_ne (tgt := 29) hx hb dX9_names_21 (by decide) (fun _ => ?_) (fun c_ => absurd c_ (by decide))
  refine lv_iload_n hx hb dX9_names_29 rfl (lv_at hl 3 rfl) ?_
  refine lv_iconst (v := 2) hx hb dX9_names_30 (by decide) ?_
  refine lv_icmp_ne (tgt := 39) hx hb dX9_names_31 (by decide) (fun _ => ?_) (fun c_ => absurd c_ (by decide))
  refine lv_iload_n hx hb dX9_names_39 rfl (lv_at hl 3 rfl) ?_
  refine lv_iconst (v := 3) hx hb dX9_names_40 (by decide) ?_
  refine lv_icmp_ne (tgt := 51) hx hb dX9_names_41 (by decide) (fun _ => ?_) (fun c_ => absurd c_ (by decide))
  refine lv_iload_n hx hb dX9_names_51 rfl (lv_at hl 3 rfl) ?_
  refine lv_iconst (v := 4) hx hb dX9_names_52 (by decide) ?_
  refine lv_bipush (v := 8) hx hb dX9_names_53 (by decide) ?_
  refine r_ki hw (r_runS (rest := []) hC hw (c_X9_isIn l _ _ 37 4 8) 3 gX9_names_X9_isIn rfl rfl rfl (by decide +kernel) ⟨Nat.le_of_ble_eq_true rfl, Nat.le_of_ble_eq_true rfl⟩ rfl hl.1 rfl (Nat.le_of_ble_eq_true rfl) dX9_names_55 ⟨Nat.le_of_ble_eq_true rfl, Nat.le_of_ble_eq_true rfl⟩) (fun r_2 u_3 H locs h_1 hw => ?_)
  rw [if_neg (by decide)] at h_1
  subst h_1
  refine lv_if_ne (tgt := 67) hx hb dX9_names_58 (by decide) (fun c_ => absurd (by decide) c_) (fun _ => ?_)
  refine lv_iload_n hx hb dX9_names_61 rfl (lv_at hl 3 rfl) ?_
  refine lv_bipush (v := 25) hx hb dX9_names_62 (by decide) ?_
  refine lv_icmp_ne (tgt := 77) hx hb dX9_names_64 (by decide) (fun _ => ?_) (fun c_ => absurd c_ (by decide))
  refine lv_iload_n hx hb dX9_names_77 rfl (lv_at hl 3 rfl) ?_
  refine lv_bipush (v := 9) hx hb dX9_names_78 (by decide) ?_
  refine lv_bipush (v := 12) hx hb dX9_names_80 (by decide) ?_
  refine r_ki hw (r_runS (rest := []) hC hw (c_X9_isIn l _ _ 37 9 12) 3 gX9_names_X9_isIn rfl rfl rfl (by decide +kernel) ⟨Nat.le_of_ble_eq_true rfl, Nat.le_of_ble_eq_true rfl⟩ rfl hl.1 rfl (Nat.le_of_ble_eq_true rfl) dX9_names_82 ⟨Nat.le_of_ble_eq_true rfl, Nat.le_of_ble_eq_true rfl⟩) (fun r_5 u_6 H locs h_4 hw => ?_)
  rw [if_neg (by decide)] at h_4
  subst h_4
  refine lv_if_eq (tgt := 98) hx hb dX9_names_85 (by decide) (fun _ => ?_) (fun c_ => absurd (by decide) c_)
  refine lv_iload_n hx hb dX9_names_98 rfl (lv_at hl 3 rfl) ?_
  refine lv_bipush (v := 13) hx hb dX9_names_99 (by decide) ?_
  refine lv_bipush (v := 24) hx hb dX9_names_101 (by decide) ?_
  refine r_ki hw (r_runS (rest := []) hC hw (c_X9_isIn l _ _ 37 13 24) 3 gX9_names_X9_isIn rfl rfl rfl (by decide +kernel) ⟨Nat.le_of_ble_eq_true rfl, Nat.le_of_ble_eq_true rfl⟩ rfl hl.1 rfl (Nat.le_of_ble_eq_true rfl) dX9_names_103 ⟨Nat.le_of_ble_eq_true rfl, Nat.le_of_ble_eq_true rfl⟩) (fun r_8 u_9 H locs h_7 hw => ?_)
  rw [if_neg (by decide)] at h_7
  subst h_7
  refine lv_if_ne (tgt := 115) hx hb dX9_names_106 (by decide) (fun c_ => absurd (by decide) c_) (fun _ => ?_)
  refine lv_iload_n hx hb dX9_names_109 rfl (lv_at hl 3 rfl) ?_
  refine lv_bipush (v := 26) hx hb dX9_names_110 (by decide) ?_
  refine lv_icmp_ne (tgt := 270) hx hb dX9_names_112 (by decide) (fun _ => ?_) (fun c_ => absurd c_ (by decide))
  refine lv_iload_n hx hb dX9_names_270 rfl (lv_at hl 3 rfl) ?_
  refine lv_bipush (v := 27) hx hb dX9_names_271 (by decide) ?_
  refine lv_icmp_eq (tgt := 282) hx hb dX9_names_273 (by decide) (fun c_ => absurd c_ (by decide)) (fun _ => ?_)
  refine lv_iload_n hx hb dX9_names_276 rfl (lv_at hl 3 rfl) ?_
  refine lv_bipush (v := 29) hx hb dX9_names_277 (by decide) ?_
  refine lv_icmp_ne (tgt := 288) hx hb dX9_names_279 (by decide) (fun _ => ?_) (fun c_ => absurd c_ (by decide))
  refine lv_iload_n hx hb dX9_names_288 rfl (lv_at hl 3 rfl) ?_
  refine lv_bipush (v := 28) hx hb dX9_names_289 (by decide) ?_
  refine lv_icmp_ne (tgt := 302) hx hb dX9_names_291 (by decide) (fun _ => ?_) (fun c_ => absurd c_ (by decide))
  refine lv_iload_n hx hb dX9_names_302 rfl (lv_at hl 3 rfl) ?_
  refine lv_bipush (v := 31) hx hb dX9_names_303 (by decide) ?_
  refine lv_bipush (v := 38) hx hb dX9_names_305 (by decide) ?_
  refine r_ki hw (r_runS (rest := []) hC hw (c_X9_isIn l _ _ 37 31 38) 3 gX9_names_X9_isIn rfl rfl rfl (by decide +kernel) ⟨Nat.le_of_ble_eq_true rfl, Nat.le_of_ble_eq_true rfl⟩ rfl hl.1 rfl (Nat.le_of_ble_eq_true rfl) dX9_names_307 ⟨Nat.le_of_ble_eq_true rfl, Nat.le_of_ble_eq_true rfl⟩) (fun r_11 u_12 H locs h_10 hw => ?_)
  rw [if_pos (by decide)] at h_10
  subst h_10
  refine lv_if_eq (tgt := 411) hx hb dX9_names_310 (by decide) (fun c_ => absurd c_ (by decide)) (fun _ => ?_)
  refine lv_iload_n hx hb dX9_names_313 rfl (lv_at hl 3 rfl) ?_
  refine lv_bipush (v := 36) hx hb dX9_names_314 (by decide) ?_
  refine lv_icmp_lt (tgt := 323) hx hb dX9_names_316 (by decide) (fun c_ => absurd c_ (by decide)) (fun _ => ?_)
  refine lv_iconst (v := 1) hx hb dX9_names_319 (by decide) ?_
  refine lv_goto (tgt := 324) hx hb dX9_names_320 (by decide) ?_
  refine lv_istore_n (lv' := [(2, .int 1), (4, .int 0), (3, .int 0), (0, .int 37), (1, .int wh)]) hx hb dX9_names_324 rfl hl (by decide) rfl (fun ls hl => ?_)
  refine lv_iload_n hx hb dX9_names_325 rfl (lv_at hl 3 rfl) ?_
  refine lv_bipush (v := 31) hx hb dX9_names_326 (by decide) ?_
  refine lv_icmp_ne (tgt := 336) hx hb dX9_names_328 (by decide) (fun _ => ?_) (fun c_ => absurd c_ (by decide))
  refine lv_iload_n hx hb dX9_names_336 rfl (lv_at hl 3 rfl) ?_
  refine lv_bipush (v := 32) hx hb dX9_names_337 (by decide) ?_
  refine lv_icmp_ne (tgt := 346) hx hb dX9_names_339 (by decide) (fun _ => ?_) (fun c_ => absurd c_ (by decide))
  refine lv_iload_n hx hb dX9_names_346 rfl (lv_at hl 3 rfl) ?_
  refine lv_bipush (v := 33) hx hb dX9_names_347 (by decide) ?_
  refine lv_icmp_ne (tgt := 357) hx hb dX9_names_349 (by decide) (fun _ => ?_) (fun c_ => absurd c_ (by decide))
  refine lv_iload_n hx hb dX9_names_357 rfl (lv_at hl 3 rfl) ?_
  refine lv_bipush (v := 35) hx hb dX9_names_358 (by decide) ?_
  refine lv_icmp_ne (tgt := 367) hx hb dX9_names_360 (by decide) (fun _ => ?_) (fun c_ => absurd c_ (by decide))
  refine lv_iconst (v := 5) hx hb dX9_names_367 (by decide) ?_
  refine lv_istore_n (lv' := [(3, .int 5), (2, .int 1), (4, .int 0), (0, .int 37), (1, .int wh)]) hx hb dX9_names_368 rfl hl (by decide) rfl (fun ls hl => ?_)
  refine lv_iload_n hx hb dX9_names_369 rfl (lv_at hl 3 rfl) ?_
  refine lv_bipush (v := 31) hx hb dX9_names_370 (by decide) ?_
  refine lv_bipush (v := 33) hx hb dX9_names_372 (by decide) ?_
  refine r_ki hw (r_runS (rest := []) hC hw (c_X9_isIn l _ _ 37 31 33) 3 gX9_names_X9_isIn rfl rfl rfl (by decide +kernel) ⟨Nat.le_of_ble_eq_true rfl, Nat.le_of_ble_eq_true rfl⟩ rfl hl.1 rfl (Nat.le_of_ble_eq_true rfl) dX9_names_374 ⟨Nat.le_of_ble_eq_true rfl, Nat.le_of_ble_eq_true rfl⟩) (fun r_14 u_15 H locs h_13 hw => ?_)
  rw [if_neg (by decide)] at h_13
  subst h_13
  refine lv_if_eq (tgt := 384) hx hb dX9_names_377 (by decide) (fun _ => ?_) (fun c_ => absurd (by decide) c_)
  refine lv_iload_n hx hb dX9_names_384 rfl (lv_at hl 3 rfl) ?_
  refine lv_bipush (v := 36) hx hb dX9_names_385 (by decide) ?_
  refine lv_icmp_ne (tgt := 394) hx hb dX9_names_387 (by decide) (fun _ => ?_) (fun c_ => absurd c_ (by decide))
  refine lv_iload_n hx hb dX9_names_394 rfl (lv_at hl 3 rfl) ?_
  refine lv_bipush (v := 37) hx hb dX9_names_395 (by decide) ?_
  refine lv_icmp_ne (tgt := 405) hx hb dX9_names_397 (by decide) (fun c_ => absurd (by decide) c_) (fun _ => ?_)
  refine lv_bipush (v := 9) hx hb dX9_names_400 (by decide) ?_
  refine lv_goto (tgt := 406) hx hb dX9_names_402 (by decide) ?_
  refine lv_istore (lv' := [(4, .int 9), (3, .int 5), (2, .int 1), (0, .int 37), (1, .int wh)]) hx hb dX9_names_406 hl (by decide) rfl (fun ls hl => ?_)
  refine lv_goto (tgt := 605) hx hb dX9_names_408 (by decide) ?_
  refine lv_iload_n hx hb dX9_names_605 rfl (lv_at hl 4 rfl) ?_
  refine lv_if_ne (tgt := 613) hx hb dX9_names_606 (by decide) (fun c_16 => ?_) (fun c_16 => ?_)
  · refine lv_iload_n hx hb dX9_names_613 rfl (lv_at hl 4 rfl) ?_
    refine lv_iconst (v := 1) hx hb dX9_names_614 (by decide) ?_
    refine lv_icmp_ne (tgt := 622) hx hb dX9_names_615 (by decide) (fun c_17 => ?_) (fun c_17 => ?_)
    · refine lv_iload hx hb dX9_names_622 (lv_at hl 0 rfl) ?_
      exact r_iret hC hr hlk hw () rfl ((if_neg c_16).trans (if_neg c_17)).symm (Nat.le_of_ble_eq_true rfl) (Nat.le_of_ble_eq_true rfl) dX9_names_624
    · refine lv_iload_n hx hb dX9_names_618 rfl (lv_at hl 1 rfl) ?_
      refine lv_goto (tgt := 624) hx hb dX9_names_619 (by decide) ?_
      exact r_iret hC hr hlk hw () rfl ((if_neg c_16).trans (if_pos c_17)).symm (Nat.le_of_ble_eq_true rfl) (Nat.le_of_ble_eq_true rfl) dX9_names_624
  · refine lv_iload_n hx hb dX9_names_609 rfl (lv_at hl 2 rfl) ?_
    refine lv_goto (tgt := 624) hx hb dX9_names_610 (by decide) ?_
    exact r_iret hC hr hlk hw () rfl (if_pos c_16).symm (Nat.le_of_ble_eq_true rfl) (Nat.le_of_ble_eq_true rfl) dX9_names_624

set_option maxHeartbeats 4000000 in
set_option maxRecDepth 100000 in
theorem c_X9_names_38 (l : Launch) {D : va_G} {q : Nat → ClassId} (w : wT) (sz : Nat) (wh : Int32) : Met l yX9_names wsX9_names (rmz 1 22) (va_Pc [.int 38, .int wh] (rPre D q w sz)) (va_Qi (fun (r : Int32) (u : Unit) => r = if wh = 0 then 1 else if wh = 1 then 5 else 0) (fun (u : Unit) tt => rPo D (rA w sz) w tt) (rA w sz)) 0 0 (rA w sz) := by
  refine r_start (cc := cX9_names) (maxL := 6) (ret := (some .int)) (by decide) rfl (Nat.le_of_ble_eq_true rfl) ?_
  intro p e s m below meth c ls hC hr hlk hnm hsz hw hl
  have hx := hC.1
  have hb := hC.2.1
  have hl : lv_has ls 6 [(0, .int 38), (1, .int wh)] := hl
  refine lv_iconst (v := 0) hx hb dX9_names_0 (by decide) ?_
  refine lv_istore_n (lv' := [(2, .int 0), (0, .int 38), (1, .int wh)]) hx hb dX9_names_1 rfl hl (by decide) rfl (fun ls hl => ?_)
  refine lv_iconst (v := 0) hx hb dX9_names_2 (by decide) ?_
  refine lv_istore_n (lv' := [(3, .int 0), (2, .int 0), (0, .int 38), (1, .int wh)]) hx hb dX9_names_3 rfl hl (by decide) rfl (fun ls hl => ?_)
  refine lv_iconst (v := 0) hx hb dX9_names_4 (by decide) ?_
  refine lv_istore (lv' := [(4, .int 0), (3, .int 0), (2, .int 0), (0, .int 38), (1, .int wh)]) hx hb dX9_names_5 hl (by decide) rfl (fun ls hl => ?_)
  refine lv_iload_n hx hb dX9_names_7 rfl (lv_at hl 3 rfl) ?_
  refine lv_iconst (v := 1) hx hb dX9_names_8 (by decide) ?_
  refine lv_icmp_eq (tgt := 24) hx hb dX9_names_9 (by decide) (fun c_ => absurd c_ (by decide)) (fun _ => ?_)
  refine lv_iload_n hx hb dX9_names_12 rfl (lv_at hl 3 rfl) ?_
  refine lv_bipush (v := 72) hx hb dX9_names_13 (by decide) ?_
  refine lv_icmp_eq (tgt := 24) hx hb dX9_names_15 (by decide) (fun c_ => absurd c_ (by decide)) (fun _ => ?_)
  refine lv_iload_n hx hb dX9_names_18 rfl (lv_at hl 3 rfl) ?_
  refine lv_bipush (v := 73) hx hb dX9_names_19 (by decide) ?_
  refine lv_icmp_ne (tgt := 29) hx hb dX9_names_21 (by decide) (fun _ => ?_) (fun c_ => absurd c_ (by decide))
  refine lv_iload_n hx hb dX9_names_29 rfl (lv_at hl 3 rfl) ?_
  refine lv_iconst (v := 2) hx hb dX9_names_30 (by decide) ?_
  refine lv_icmp_ne (tgt := 39) hx hb dX9_names_31 (by decide) (fun _ => ?_) (fun c_ => absurd c_ (by decide))
  refine lv_iload_n hx hb dX9_names_39 rfl (lv_at hl 3 rfl) ?_
  refine lv_iconst (v := 3) hx hb dX9_names_40 (by decide) ?_
  refine lv_icmp_ne (tgt := 51) hx hb dX9_names_41 (by decide) (fun _ => ?_) (fun c_ => absurd c_ (by decide))
  refine lv_iload_n hx hb dX9_names_51 rfl (lv_at hl 3 rfl) ?_
  refine lv_iconst (v := 4) hx hb dX9_names_52 (by decide) ?_
  refine lv_bipush (v := 8) hx hb dX9_names_53 (by decide) ?_
  refine r_ki hw (r_runS (rest := []) hC hw (c_X9_isIn l _ _ 38 4 8) 3 gX9_names_X9_isIn rfl rfl rfl (by decide +kernel) ⟨Nat.le_of_ble_eq_true rfl, Nat.le_of_ble_eq_true rfl⟩ rfl hl.1 rfl (Nat.le_of_ble_eq_true rfl) dX9_names_55 ⟨Nat.le_of_ble_eq_true rfl, Nat.le_of_ble_eq_true rfl⟩) (fun r_2 u_3 H locs h_1 hw => ?_)
  rw [if_neg (by decide)] at h_1
  subst h_1
  refine lv_if_ne (tgt := 67) hx hb dX9_names_58 (by decide) (fun c_ => absurd (by decide) c_) (fun _ => ?_)
  refine lv_iload_n hx hb dX9_names_61 rfl (lv_at hl 3 rfl) ?_
  refine lv_bipush (v := 25) hx hb dX9_names_62 (by decide) ?_
  refine lv_icmp_ne (tgt := 77) hx hb dX9_names_64 (by decide) (fun _ => ?_) (fun c_ => absurd c_ (by decide))
  refine lv_iload_n hx hb dX9_names_77 rfl (lv_at hl 3 rfl) ?_
  refine lv_bipush (v := 9) hx hb dX9_names_78 (by decide) ?_
  refine lv_bipush (v := 12) hx hb dX9_names_80 (by decide) ?_
  refine r_ki hw (r_runS (rest := []) hC hw (c_X9_isIn l _ _ 38 9 12) 3 gX9_names_X9_isIn rfl rfl rfl (by decide +kernel) ⟨Nat.le_of_ble_eq_true rfl, Nat.le_of_ble_eq_true rfl⟩ rfl hl.1 rfl (Nat.le_of_ble_eq_true rfl) dX9_names_82 ⟨Nat.le_of_ble_eq_true rfl, Nat.le_of_ble_eq_true rfl⟩) (fun r_5 u_6 H locs h_4 hw => ?_)
  rw [if_neg (by decide)] at h_4
  subst h_4
  refine lv_if_eq (tgt := 98) hx hb dX9_names_85 (by decide) (fun _ => ?_) (fun c_ => absurd (by decide) c_)
  refine lv_iload_n hx hb dX9_names_98 rfl (lv_at hl 3 rfl) ?_
  refine lv_bipush (v := 13) hx hb dX9_names_99 (by decide) ?_
  refine lv_bipush (v := 24) hx hb dX9_names_101 (by decide) ?_
  refine r_ki hw (r_runS (rest := []) hC hw (c_X9_isIn l _ _ 38 13 24) 3 gX9_names_X9_isIn rfl rfl rfl (by decide +kernel) ⟨Nat.le_of_ble_eq_true rfl, Nat.le_of_ble_eq_true rfl⟩ rfl hl.1 rfl (Nat.le_of_ble_eq_true rfl) dX9_names_103 ⟨Nat.le_of_ble_eq_true rfl, Nat.le_of_ble_eq_true rfl⟩) (fun r_8 u_9 H locs h_7 hw => ?_)
  rw [if_neg (by decide)] at h_7
  subst h_7
  refine lv_if_ne (tgt := 115) hx hb dX9_names_106 (by decide) (fun c_ => absurd (by decide) c_) (fun _ => ?_)
  refine lv_iload_n hx hb dX9_names_109 rfl (lv_at hl 3 rfl) ?_
  refine lv_bipush (v := 26) hx hb dX9_names_110 (by decide) ?_
  refine lv_icmp_ne (tgt := 270) hx hb dX9_names_112 (by decide) (fun _ => ?_) (fun c_ => absurd c_ (by decide))
  refine lv_iload_n hx hb dX9_names_270 rfl (lv_at hl 3 rfl) ?_
  refine lv_bipush (v := 27) hx hb dX9_names_271 (by decide) ?_
  refine lv_icmp_eq (tgt := 282) hx hb dX9_names_273 (by decide) (fun c_ => absurd c_ (by decide)) (fun _ => ?_)
  refine lv_iload_n hx hb dX9_names_276 rfl (lv_at hl 3 rfl) ?_
  refine lv_bipush (v := 29) hx hb dX9_names_277 (by decide) ?_
  refine lv_icmp_ne (tgt := 288) hx hb dX9_names_279 (by decide) (fun _ => ?_) (fun c_ => absurd c_ (by decide))
  refine lv_iload_n hx hb dX9_names_288 rfl (lv_at hl 3 rfl) ?_
  refine lv_bipush (v := 28) hx hb dX9_names_289 (by decide) ?_
  refine lv_icmp_ne (tgt := 302) hx hb dX9_names_291 (by decide) (fun _ => ?_) (fun c_ => absurd c_ (by decide))
  refine lv_iload_n hx hb dX9_names_302 rfl (lv_at hl 3 rfl) ?_
  refine lv_bipush (v := 31) hx hb dX9_names_303 (by decide) ?_
  refine lv_bipush (v := 38) hx hb dX9_names_305 (by decide) ?_
  refine r_ki hw (r_runS (rest := []) hC hw (c_X9_isIn l _ _ 38 31 38) 3 gX9_names_X9_isIn rfl rfl rfl (by decide +kernel) ⟨Nat.le_of_ble_eq_true rfl, Nat.le_of_ble_eq_true rfl⟩ rfl hl.1 rfl (Nat.le_of_ble_eq_true rfl) dX9_names_307 ⟨Nat.le_of_ble_eq_true rfl, Nat.le_of_ble_eq_true rfl⟩) (fun r_11 u_12 H locs h_10 hw => ?_)
  rw [if_pos (by decide)] at h_10
  subst h_10
  refine lv_if_eq (tgt := 411) hx hb dX9_names_310 (by decide) (fun c_ => absurd c_ (by decide)) (fun _ => ?_)
  refine lv_iload_n hx hb dX9_names_313 rfl (lv_at hl 3 rfl) ?_
  refine lv_bipush (v := 36) hx hb dX9_names_314 (by decide) ?_
  refine lv_icmp_lt (tgt := 323) hx hb dX9_names_316 (by decide) (fun c_ => absurd c_ (by decide)) (fun _ => ?_)
  refine lv_iconst (v := 1) hx hb dX9_names_319 (by decide) ?_
  refine lv_goto (tgt := 324) hx hb dX9_names_320 (by decide) ?_
  refine lv_istore_n (lv' := [(2, .int 1), (4, .int 0), (3, .int 0), (0, .int 38), (1, .int wh)]) hx hb dX9_names_324 rfl hl (by decide) rfl (fun ls hl => ?_)
  refine lv_iload_n hx hb dX9_names_325 rfl (lv_at hl 3 rfl) ?_
  refine lv_bipush (v := 31) hx hb dX9_names_326 (by decide) ?_
  refine lv_icmp_ne (tgt := 336) hx hb dX9_names_328 (by decide) (fun _ => ?_) (fun c_ => absurd c_ (by decide))
  refine lv_iload_n hx hb dX9_names_336 rfl (lv_at hl 3 rfl) ?_
  refine lv_bipush (v := 32) hx hb dX9_names_337 (by decide) ?_
  refine lv_icmp_ne (tgt := 346) hx hb dX9_names_339 (by decide) (fun _ => ?_) (fun c_ => absurd c_ (by decide))
  refine lv_iload_n hx hb dX9_names_346 rfl (lv_at hl 3 rfl) ?_
  refine lv_bipush (v := 33) hx hb dX9_names_347 (by decide) ?_
  refine lv_icmp_ne (tgt := 357) hx hb dX9_names_349 (by decide) (fun _ => ?_) (fun c_ => absurd c_ (by decide))
  refine lv_iload_n hx hb dX9_names_357 rfl (lv_at hl 3 rfl) ?_
  refine lv_bipush (v := 35) hx hb dX9_names_358 (by decide) ?_
  refine lv_icmp_ne (tgt := 367) hx hb dX9_names_360 (by decide) (fun _ => ?_) (fun c_ => absurd c_ (by decide))
  refine lv_iconst (v := 5) hx hb dX9_names_367 (by decide) ?_
  refine lv_istore_n (lv' := [(3, .int 5), (2, .int 1), (4, .int 0), (0, .int 38), (1, .int wh)]) hx hb dX9_names_368 rfl hl (by decide) rfl (fun ls hl => ?_)
  refine lv_iload_n hx hb dX9_names_369 rfl (lv_at hl 3 rfl) ?_
  refine lv_bipush (v := 31) hx hb dX9_names_370 (by decide) ?_
  refine lv_bipush (v := 33) hx hb dX9_names_372 (by decide) ?_
  refine r_ki hw (r_runS (rest := []) hC hw (c_X9_isIn l _ _ 38 31 33) 3 gX9_names_X9_isIn rfl rfl rfl (by decide +kernel) ⟨Nat.le_of_ble_eq_true rfl, Nat.le_of_ble_eq_true rfl⟩ rfl hl.1 rfl (Nat.le_of_ble_eq_true rfl) dX9_names_374 ⟨Nat.le_of_ble_eq_true rfl, Nat.le_of_ble_eq_true rfl⟩) (fun r_14 u_15 H locs h_13 hw => ?_)
  rw [if_neg (by decide)] at h_13
  subst h_13
  refine lv_if_eq (tgt := 384) hx hb dX9_names_377 (by decide) (fun _ => ?_) (fun c_ => absurd (by decide) c_)
  refine lv_iload_n hx hb dX9_names_384 rfl (lv_at hl 3 rfl) ?_
  refine lv_bipush (v := 36) hx hb dX9_names_385 (by decide) ?_
  refine lv_icmp_ne (tgt := 394) hx hb dX9_names_387 (by decide) (fun _ => ?_) (fun c_ => absurd c_ (by decide))
  refine lv_iload_n hx hb dX9_names_394 rfl (lv_at hl 3 rfl) ?_
  refine lv_bipush (v := 37) hx hb dX9_names_395 (by decide) ?_
  refine lv_icmp_ne (tgt := 405) hx hb dX9_names_397 (by decide) (fun _ => ?_) (fun c_ => absurd c_ (by decide))
  refine lv_iconst (v := 0) hx hb dX9_names_405 (by decide) ?_
  refine lv_istore (lv' := [(4, .int 0), (3, .int 5), (2, .int 1), (0, .int 38), (1, .int wh)]) hx hb dX9_names_406 hl (by decide) rfl (fun ls hl => ?_)
  refine lv_goto (tgt := 605) hx hb dX9_names_408 (by decide) ?_
  refine lv_iload_n hx hb dX9_names_605 rfl (lv_at hl 4 rfl) ?_
  refine lv_if_ne (tgt := 613) hx hb dX9_names_606 (by decide) (fun c_16 => ?_) (fun c_16 => ?_)
  · refine lv_iload_n hx hb dX9_names_613 rfl (lv_at hl 4 rfl) ?_
    refine lv_iconst (v := 1) hx hb dX9_names_614 (by decide) ?_
    refine lv_icmp_ne (tgt := 622) hx hb dX9_names_615 (by decide) (fun c_17 => ?_) (fun c_17 => ?_)
    · refine lv_iload hx hb dX9_names_622 (lv_at hl 0 rfl) ?_
      exact r_iret hC hr hlk hw () rfl ((if_neg c_16).trans (if_neg c_17)).symm (Nat.le_of_ble_eq_true rfl) (Nat.le_of_ble_eq_true rfl) dX9_names_624
    · refine lv_iload_n hx hb dX9_names_618 rfl (lv_at hl 1 rfl) ?_
      refine lv_goto (tgt := 624) hx hb dX9_names_619 (by decide) ?_
      exact r_iret hC hr hlk hw () rfl ((if_neg c_16).trans (if_pos c_17)).symm (Nat.le_of_ble_eq_true rfl) (Nat.le_of_ble_eq_true rfl) dX9_names_624
  · refine lv_iload_n hx hb dX9_names_609 rfl (lv_at hl 2 rfl) ?_
    refine lv_goto (tgt := 624) hx hb dX9_names_610 (by decide) ?_
    exact r_iret hC hr hlk hw () rfl (if_pos c_16).symm (Nat.le_of_ble_eq_true rfl) (Nat.le_of_ble_eq_true rfl) dX9_names_624

set_option maxHeartbeats 4000000 in
set_option maxRecDepth 100000 in
theorem c_X9_names_39 (l : Launch) {D : va_G} {q : Nat → ClassId} (w : wT) (sz : Nat) (wh : Int32) : Met l yX9_names wsX9_names (rmz 1 22) (va_Pc [.int 39, .int wh] (rPre D q w sz)) (va_Qi (fun (r : Int32) (u : Unit) => r = if wh = 0 then 1 else if wh = 1 then 5 else 1) (fun (u : Unit) tt => rPo D (rA w sz) w tt) (rA w sz)) 0 0 (rA w sz) := by
  refine r_start (cc := cX9_names) (maxL := 6) (ret := (some .int)) (by decide) rfl (Nat.le_of_ble_eq_true rfl) ?_
  intro p e s m below meth c ls hC hr hlk hnm hsz hw hl
  have hx := hC.1
  have hb := hC.2.1
  have hl : lv_has ls 6 [(0, .int 39), (1, .int wh)] := hl
  refine lv_iconst (v := 0) hx hb dX9_names_0 (by decide) ?_
  refine lv_istore_n (lv' := [(2, .int 0), (0, .int 39), (1, .int wh)]) hx hb dX9_names_1 rfl hl (by decide) rfl (fun ls hl => ?_)
  refine lv_iconst (v := 0) hx hb dX9_names_2 (by decide) ?_
  refine lv_istore_n (lv' := [(3, .int 0), (2, .int 0), (0, .int 39), (1, .int wh)]) hx hb dX9_names_3 rfl hl (by decide) rfl (fun ls hl => ?_)
  refine lv_iconst (v := 0) hx hb dX9_names_4 (by decide) ?_
  refine lv_istore (lv' := [(4, .int 0), (3, .int 0), (2, .int 0), (0, .int 39), (1, .int wh)]) hx hb dX9_names_5 hl (by decide) rfl (fun ls hl => ?_)
  refine lv_iload_n hx hb dX9_names_7 rfl (lv_at hl 3 rfl) ?_
  refine lv_iconst (v := 1) hx hb dX9_names_8 (by decide) ?_
  refine lv_icmp_eq (tgt := 24) hx hb dX9_names_9 (by decide) (fun c_ => absurd c_ (by decide)) (fun _ => ?_)
  refine lv_iload_n hx hb dX9_names_12 rfl (lv_at hl 3 rfl) ?_
  refine lv_bipush (v := 72) hx hb dX9_names_13 (by decide) ?_
  refine lv_icmp_eq (tgt := 24) hx hb dX9_names_15 (by decide) (fun c_ => absurd c_ (by decide)) (fun _ => ?_)
  refine lv_iload_n hx hb dX9_names_18 rfl (lv_at hl 3 rfl) ?_
  refine lv_bipush (v := 73) hx hb dX9_names_19 (by decide) ?_
  refine lv_icmp_ne (tgt := 29) hx hb dX9_names_21 (by decide) (fun _ => ?_) (fun c_ => absurd c_ (by decide))
  refine lv_iload_n hx hb dX9_names_29 rfl (lv_at hl 3 rfl) ?_
  refine lv_iconst (v := 2) hx hb dX9_names_30 (by decide) ?_
  refine lv_icmp_ne (tgt := 39) hx hb dX9_names_31 (by decide) (fun _ => ?_) (fun c_ => absurd c_ (by decide))
  refine lv_iload_n hx hb dX9_names_39 rfl (lv_at hl 3 rfl) ?_
  refine lv_iconst (v := 3) hx hb dX9_names_40 (by decide) ?_
  refine lv_icmp_ne (tgt := 51) hx hb dX9_names_41 (by decide) (fun _ => ?_) (fun c_ => absurd c_ (by decide))
  refine lv_iload_n hx hb dX9_names_51 rfl (lv_at hl 3 rfl) ?_
  refine lv_iconst (v := 4) hx hb dX9_names_52 (by decide) ?_
  refine lv_bipush (v := 8) hx hb dX9_names_53 (by decide) ?_
  refine r_ki hw (r_runS (rest := []) hC hw (c_X9_isIn l _ _ 39 4 8) 3 gX9_names_X9_isIn rfl rfl rfl (by decide +kernel) ⟨Nat.le_of_ble_eq_true rfl, Nat.le_of_ble_eq_true rfl⟩ rfl hl.1 rfl (Nat.le_of_ble_eq_true rfl) dX9_names_55 ⟨Nat.le_of_ble_eq_true rfl, Nat.le_of_ble_eq_true rfl⟩) (fun r_2 u_3 H locs h_1 hw => ?_)
  rw [if_neg (by decide)] at h_1
  subst h_1
  refine lv_if_ne (tgt := 67) hx hb dX9_names_58 (by decide) (fun c_ => absurd (by decide) c_) (fun _ => ?_)
  refine lv_iload_n hx hb dX9_names_61 rfl (lv_at hl 3 rfl) ?_
  refine lv_bipush (v := 25) hx hb dX9_names_62 (by decide) ?_
  refine lv_icmp_ne (tgt := 77) hx hb dX9_names_64 (by decide) (fun _ => ?_) (fun c_ => absurd c_ (by decide))
  refine lv_iload_n hx hb dX9_names_77 rfl (lv_at hl 3 rfl) ?_
  refine lv_bipush (v := 9) hx hb dX9_names_78 (by decide) ?_
  refine lv_bipush (v := 12) hx hb dX9_names_80 (by decide) ?_
  refine r_ki hw (r_runS (rest := []) hC hw (c_X9_isIn l _ _ 39 9 12) 3 gX9_names_X9_isIn rfl rfl rfl (by decide +kernel) ⟨Nat.le_of_ble_eq_true rfl, Nat.le_of_ble_eq_true rfl⟩ rfl hl.1 rfl (Nat.le_of_ble_eq_true rfl) dX9_names_82 ⟨Nat.le_of_ble_eq_true rfl, Nat.le_of_ble_eq_true rfl⟩) (fun r_5 u_6 H locs h_4 hw => ?_)
  rw [if_neg (by decide)] at h_4
  subst h_4
  refine lv_if_eq (tgt := 98) hx hb dX9_names_85 (by decide) (fun _ => ?_) (fun c_ => absurd (by decide) c_)
  refine lv_iload_n hx hb dX9_names_98 rfl (lv_at hl 3 rfl) ?_
  refine lv_bipush (v := 13) hx hb dX9_names_99 (by decide) ?_
  refine lv_bipush (v := 24) hx hb dX9_names_101 (by decide) ?_
  refine r_ki hw (r_runS (rest := []) hC hw (c_X9_isIn l _ _ 39 13 24) 3 gX9_names_X9_isIn rfl rfl rfl (by decide +kernel) ⟨Nat.le_of_ble_eq_true rfl, Nat.le_of_ble_eq_true rfl⟩ rfl hl.1 rfl (Nat.le_of_ble_eq_true rfl) dX9_names_103 ⟨Nat.le_of_ble_eq_true rfl, Nat.le_of_ble_eq_true rfl⟩) (fun r_8 u_9 H locs h_7 hw => ?_)
  rw [if_neg (by decide)] at h_7
  subst h_7
  refine lv_if_ne (tgt := 115) hx hb dX9_names_106 (by decide) (fun c_ => absurd (by decide) c_) (fun _ => ?_)
  refine lv_iload_n hx hb dX9_names_109 rfl (lv_at hl 3 rfl) ?_
  refine lv_bipush (v := 26) hx hb dX9_names_110 (by decide) ?_
  refine lv_icmp_ne (tgt := 270) hx hb dX9_names_112 (by decide) (fun _ => ?_) (fun c_ => absurd c_ (by decide))
  refine lv_iload_n hx hb dX9_names_270 rfl (lv_at hl 3 rfl) ?_
  refine lv_bipush (v := 27) hx hb dX9_names_271 (by decide) ?_
  refine lv_icmp_eq (tgt := 282) hx hb dX9_names_273 (by decide) (fun c_ => absurd c_ (by decide)) (fun _ => ?_)
  refine lv_iload_n hx hb dX9_names_276 rfl (lv_at hl 3 rfl) ?_
  refine lv_bipush (v := 29) hx hb dX9_names_277 (by decide) ?_
  refine lv_icmp_ne (tgt := 288) hx hb dX9_names_279 (by decide) (fun _ => ?_) (fun c_ => absurd c_ (by decide))
  refine lv_iload_n hx hb dX9_names_288 rfl (lv_at hl 3 rfl) ?_
  refine lv_bipush (v := 28) hx hb dX9_names_289 (by decide) ?_
  refine lv_icmp_ne (tgt := 302) hx hb dX9_names_291 (by decide) (fun _ => ?_) (fun c_ => absurd c_ (by decide))
  refine lv_iload_n hx hb dX9_names_302 rfl (lv_at hl 3 rfl) ?_
  refine lv_bipush (v := 31) hx hb dX9_names_303 (by decide) ?_
  refine lv_bipush (v := 38) hx hb dX9_names_305 (by decide) ?_
  refine r_ki hw (r_runS (rest := []) hC hw (c_X9_isIn l _ _ 39 31 38) 3 gX9_names_X9_isIn rfl rfl rfl (by decide +kernel) ⟨Nat.le_of_ble_eq_true rfl, Nat.le_of_ble_eq_true rfl⟩ rfl hl.1 rfl (Nat.le_of_ble_eq_true rfl) dX9_names_307 ⟨Nat.le_of_ble_eq_true rfl, Nat.le_of_ble_eq_true rfl⟩) (fun r_11 u_12 H locs h_10 hw => ?_)
  rw [if_neg (by decide)] at h_10
  subst h_10
  refine lv_if_eq (tgt := 411) hx hb dX9_names_310 (by decide) (fun _ => ?_) (fun c_ => absurd (by decide) c_)
  refine lv_iload_n hx hb dX9_names_411 rfl (lv_at hl 3 rfl) ?_
  refine lv_bipush (v := 39) hx hb dX9_names_412 (by decide) ?_
  refine lv_bipush (v := 58) hx hb dX9_names_414 (by decide) ?_
  refine r_ki hw (r_runS (rest := []) hC hw (c_X9_isIn l _ _ 39 39 58) 3 gX9_names_X9_isIn rfl rfl rfl (by decide +kernel) ⟨Nat.le_of_ble_eq_true rfl, Nat.le_of_ble_eq_true rfl⟩ rfl hl.1 rfl (Nat.le_of_ble_eq_true rfl) dX9_names_416 ⟨Nat.le_of_ble_eq_true rfl, Nat.le_of_ble_eq_true rfl⟩) (fun r_14 u_15 H locs h_13 hw => ?_)
  rw [if_pos (by decide)] at h_13
  subst h_13
  refine lv_if_eq (tgt := 483) hx hb dX9_names_419 (by decide) (fun c_ => absurd c_ (by decide)) (fun _ => ?_)
  refine lv_iload_n hx hb dX9_names_422 rfl (lv_at hl 3 rfl) ?_
  refine lv_bipush (v := 39) hx hb dX9_names_423 (by decide) ?_
  refine lv_isub hx hb dX9_names_425 ?_
  refine r_topi (x := 39 - 39) (y := 0) (by decide) ?_
  refine lv_bipush (v := 10) hx hb dX9_names_426 (by decide) ?_
  refine lv_irem hx hb dX9_names_428 (by decide) ?_
  refine r_topi (x := 0 - 0 / 10 * 10) (y := 0) (by decide) ?_
  refine lv_istore (lv' := [(5, .int 0), (4, .int 0), (3, .int 0), (2, .int 0), (0, .int 39), (1, .int wh)]) hx hb dX9_names_429 hl (by decide) rfl (fun ls hl => ?_)
  refine lv_iload hx hb dX9_names_431 (lv_at hl 0 rfl) ?_
  refine lv_iconst (v := 5) hx hb dX9_names_433 (by decide) ?_
  refine lv_icmp_ge (tgt := 441) hx hb dX9_names_434 (by decide) (fun c_ => absurd c_ (by decide)) (fun _ => ?_)
  refine lv_iconst (v := 1) hx hb dX9_names_437 (by decide) ?_
  refine lv_goto (tgt := 474) hx hb dX9_names_438 (by decide) ?_
  refine lv_istore_n (lv' := [(2, .int 1), (5, .int 0), (4, .int 0), (3, .int 0), (0, .int 39), (1, .int wh)]) hx hb dX9_names_474 rfl hl (by decide) rfl (fun ls hl => ?_)
  refine lv_iconst (v := 5) hx hb dX9_names_475 (by decide) ?_
  refine lv_istore_n (lv' := [(3, .int 5), (2, .int 1), (5, .int 0), (4, .int 0), (0, .int 39), (1, .int wh)]) hx hb dX9_names_476 rfl hl (by decide) rfl (fun ls hl => ?_)
  refine lv_iconst (v := 1) hx hb dX9_names_477 (by decide) ?_
  refine lv_istore (lv' := [(4, .int 1), (3, .int 5), (2, .int 1), (5, .int 0), (0, .int 39), (1, .int wh)]) hx hb dX9_names_478 hl (by decide) rfl (fun ls hl => ?_)
  refine lv_goto (tgt := 605) hx hb dX9_names_480 (by decide) ?_
  refine lv_iload_n hx hb dX9_names_605 rfl (lv_at hl 5 rfl) ?_
  refine lv_if_ne (tgt := 613) hx hb dX9_names_606 (by decide) (fun c_16 => ?_) (fun c_16 => ?_)
  · refine lv_iload_n hx hb dX9_names_613 rfl (lv_at hl 5 rfl) ?_
    refine lv_iconst (v := 1) hx hb dX9_names_614 (by decide) ?_
    refine lv_icmp_ne (tgt := 622) hx hb dX9_names_615 (by decide) (fun c_17 => ?_) (fun c_17 => ?_)
    · refine lv_iload hx hb dX9_names_622 (lv_at hl 0 rfl) ?_
      exact r_iret hC hr hlk hw () rfl ((if_neg c_16).trans (if_neg c_17)).symm (Nat.le_of_ble_eq_true rfl) (Nat.le_of_ble_eq_true rfl) dX9_names_624
    · refine lv_iload_n hx hb dX9_names_618 rfl (lv_at hl 1 rfl) ?_
      refine lv_goto (tgt := 624) hx hb dX9_names_619 (by decide) ?_
      exact r_iret hC hr hlk hw () rfl ((if_neg c_16).trans (if_pos c_17)).symm (Nat.le_of_ble_eq_true rfl) (Nat.le_of_ble_eq_true rfl) dX9_names_624
  · refine lv_iload_n hx hb dX9_names_609 rfl (lv_at hl 2 rfl) ?_
    refine lv_goto (tgt := 624) hx hb dX9_names_610 (by decide) ?_
    exact r_iret hC hr hlk hw () rfl (if_pos c_16).symm (Nat.le_of_ble_eq_true rfl) (Nat.le_of_ble_eq_true rfl) dX9_names_624

set_option maxHeartbeats 4000000 in
set_option maxRecDepth 100000 in
theorem c_X9_names_40 (l : Launch) {D : va_G} {q : Nat → ClassId} (w : wT) (sz : Nat) (wh : Int32) : Met l yX9_names wsX9_names (rmz 1 22) (va_Pc [.int 40, .int wh] (rPre D q w sz)) (va_Qi (fun (r : Int32) (u : Unit) => r = if wh = 0 then 1 else if wh = 1 then 5 else 1) (fun (u : Unit) tt => rPo D (rA w sz) w tt) (rA w sz)) 0 0 (rA w sz) := by
  refine r_start (cc := cX9_names) (maxL := 6) (ret := (some .int)) (by decide) rfl (Nat.le_of_ble_eq_true rfl) ?_
  intro p e s m below meth c ls hC hr hlk hnm hsz hw hl
  have hx := hC.1
  have hb := hC.2.1
  have hl : lv_has ls 6 [(0, .int 40), (1, .int wh)] := hl
  refine lv_iconst (v := 0) hx hb dX9_names_0 (by decide) ?_
  refine lv_istore_n (lv' := [(2, .int 0), (0, .int 40), (1, .int wh)]) hx hb dX9_names_1 rfl hl (by decide) rfl (fun ls hl => ?_)
  refine lv_iconst (v := 0) hx hb dX9_names_2 (by decide) ?_
  refine lv_istore_n (lv' := [(3, .int 0), (2, .int 0), (0, .int 40), (1, .int wh)]) hx hb dX9_names_3 rfl hl (by decide) rfl (fun ls hl => ?_)
  refine lv_iconst (v := 0) hx hb dX9_names_4 (by decide) ?_
  refine lv_istore (lv' := [(4, .int 0), (3, .int 0), (2, .int 0), (0, .int 40), (1, .int wh)]) hx hb dX9_names_5 hl (by decide) rfl (fun ls hl => ?_)
  refine lv_iload_n hx hb dX9_names_7 rfl (lv_at hl 3 rfl) ?_
  refine lv_iconst (v := 1) hx hb dX9_names_8 (by decide) ?_
  refine lv_icmp_eq (tgt := 24) hx hb dX9_names_9 (by decide) (fun c_ => absurd c_ (by decide)) (fun _ => ?_)
  refine lv_iload_n hx hb dX9_names_12 rfl (lv_at hl 3 rfl) ?_
  refine lv_bipush (v := 72) hx hb dX9_names_13 (by decide) ?_
  refine lv_icmp_eq (tgt := 24) hx hb dX9_names_15 (by decide) (fun c_ => absurd c_ (by decide)) (fun _ => ?_)
  refine lv_iload_n hx hb dX9_names_18 rfl (lv_at hl 3 rfl) ?_
  refine lv_bipush (v := 73) hx hb dX9_names_19 (by decide) ?_
  refine lv_icmp_ne (tgt := 29) hx hb dX9_names_21 (by decide) (fun _ => ?_) (fun c_ => absurd c_ (by decide))
  refine lv_iload_n hx hb dX9_names_29 rfl (lv_at hl 3 rfl) ?_
  refine lv_iconst (v := 2) hx hb dX9_names_30 (by decide) ?_
  refine lv_icmp_ne (tgt := 39) hx hb dX9_names_31 (by decide) (fun _ => ?_) (fun c_ => absurd c_ (by decide))
  refine lv_iload_n hx hb dX9_names_39 rfl (lv_at hl 3 rfl) ?_
  refine lv_iconst (v := 3) hx hb dX9_names_40 (by decide) ?_
  refine lv_icmp_ne (tgt := 51) hx hb dX9_names_41 (by decide) (fun _ => ?_) (fun c_ => absurd c_ (by decide))
  refine lv_iload_n hx hb dX9_names_51 rfl (lv_at hl 3 rfl) ?_
  refine lv_iconst (v := 4) hx hb dX9_names_52 (by decide) ?_
  refine lv_bipush (v := 8) hx hb dX9_names_53 (by decide) ?_
  refine r_ki hw (r_runS (rest := []) hC hw (c_X9_isIn l _ _ 40 4 8) 3 gX9_names_X9_isIn rfl rfl rfl (by decide +kernel) ⟨Nat.le_of_ble_eq_true rfl, Nat.le_of_ble_eq_true rfl⟩ rfl hl.1 rfl (Nat.le_of_ble_eq_true rfl) dX9_names_55 ⟨Nat.le_of_ble_eq_true rfl, Nat.le_of_ble_eq_true rfl⟩) (fun r_2 u_3 H locs h_1 hw => ?_)
  rw [if_neg (by decide)] at h_1
  subst h_1
  refine lv_if_ne (tgt := 67) hx hb dX9_names_58 (by decide) (fun c_ => absurd (by decide) c_) (fun _ => ?_)
  refine lv_iload_n hx hb dX9_names_61 rfl (lv_at hl 3 rfl) ?_
  refine lv_bipush (v := 25) hx hb dX9_names_62 (by decide) ?_
  refine lv_icmp_ne (tgt := 77) hx hb dX9_names_64 (by decide) (fun _ => ?_) (fun c_ => absurd c_ (by decide))
  refine lv_iload_n hx hb dX9_names_77 rfl (lv_at hl 3 rfl) ?_
  refine lv_bipush (v := 9) hx hb dX9_names_78 (by decide) ?_
  refine lv_bipush (v := 12) hx hb dX9_names_80 (by decide) ?_
  refine r_ki hw (r_runS (rest := []) hC hw (c_X9_isIn l _ _ 40 9 12) 3 gX9_names_X9_isIn rfl rfl rfl (by decide +kernel) ⟨Nat.le_of_ble_eq_true rfl, Nat.le_of_ble_eq_true rfl⟩ rfl hl.1 rfl (Nat.le_of_ble_eq_true rfl) dX9_names_82 ⟨Nat.le_of_ble_eq_true rfl, Nat.le_of_ble_eq_true rfl⟩) (fun r_5 u_6 H locs h_4 hw => ?_)
  rw [if_neg (by decide)] at h_4
  subst h_4
  refine lv_if_eq (tgt := 98) hx hb dX9_names_85 (by decide) (fun _ => ?_) (fun c_ => absurd (by decide) c_)
  refine lv_iload_n hx hb dX9_names_98 rfl (lv_at hl 3 rfl) ?_
  refine lv_bipush (v := 13) hx hb dX9_names_99 (by decide) ?_
  refine lv_bipush (v := 24) hx hb dX9_names_101 (by decide) ?_
  refine r_ki hw (r_runS (rest := []) hC hw (c_X9_isIn l _ _ 40 13 24) 3 gX9_names_X9_isIn rfl rfl rfl (by decide +kernel) ⟨Nat.le_of_ble_eq_true rfl, Nat.le_of_ble_eq_true rfl⟩ rfl hl.1 rfl (Nat.le_of_ble_eq_true rfl) dX9_names_103 ⟨Nat.le_of_ble_eq_true rfl, Nat.le_of_ble_eq_true rfl⟩) (fun r_8 u_9 H locs h_7 hw => ?_)
  rw [if_neg (by decide)] at h_7
  subst h_7
  refine lv_if_ne (tgt := 115) hx hb dX9_names_106 (by decide) (fun c_ => absurd (by decide) c_) (fun _ => ?_)
  refine lv_iload_n hx hb dX9_names_109 rfl (lv_at hl 3 rfl) ?_
  refine lv_bipush (v := 26) hx hb dX9_names_110 (by decide) ?_
  refine lv_icmp_ne (tgt := 270) hx hb dX9_names_112 (by decide) (fun _ => ?_) (fun c_ => absurd c_ (by decide))
  refine lv_iload_n hx hb dX9_names_270 rfl (lv_at hl 3 rfl) ?_
  refine lv_bipush (v := 27) hx hb dX9_names_271 (by decide) ?_
  refine lv_icmp_eq (tgt := 282) hx hb dX9_names_273 (by decide) (fun c_ => absurd c_ (by decide)) (fun _ => ?_)
  refine lv_iload_n hx hb dX9_names_276 rfl (lv_at hl 3 rfl) ?_
  refine lv_bipush (v := 29) hx hb dX9_names_277 (by decide) ?_
  refine lv_icmp_ne (tgt := 288) hx hb dX9_names_279 (by decide) (fun _ => ?_) (fun c_ => absurd c_ (by decide))
  refine lv_iload_n hx hb dX9_names_288 rfl (lv_at hl 3 rfl) ?_
  refine lv_bipush (v := 28) hx hb dX9_names_289 (by decide) ?_
  refine lv_icmp_ne (tgt := 302) hx hb dX9_names_291 (by decide) (fun _ => ?_) (fun c_ => absurd c_ (by decide))
  refine lv_iload_n hx hb dX9_names_302 rfl (lv_at hl 3 rfl) ?_
  refine lv_bipush (v := 31) hx hb dX9_names_303 (by decide) ?_
  refine lv_bipush (v := 38) hx hb dX9_names_305 (by decide) ?_
  refine r_ki hw (r_runS (rest := []) hC hw (c_X9_isIn l _ _ 40 31 38) 3 gX9_names_X9_isIn rfl rfl rfl (by decide +kernel) ⟨Nat.le_of_ble_eq_true rfl, Nat.le_of_ble_eq_true rfl⟩ rfl hl.1 rfl (Nat.le_of_ble_eq_true rfl) dX9_names_307 ⟨Nat.le_of_ble_eq_true rfl, Nat.le_of_ble_eq_true rfl⟩) (fun r_11 u_12 H locs h_10 hw => ?_)
  rw [if_neg (by decide)] at h_10
  subst h_10
  refine lv_if_eq (tgt := 411) hx hb dX9_names_310 (by decide) (fun _ => ?_) (fun c_ => absurd (by decide) c_)
  refine lv_iload_n hx hb dX9_names_411 rfl (lv_at hl 3 rfl) ?_
  refine lv_bipush (v := 39) hx hb dX9_names_412 (by decide) ?_
  refine lv_bipush (v := 58) hx hb dX9_names_414 (by decide) ?_
  refine r_ki hw (r_runS (rest := []) hC hw (c_X9_isIn l _ _ 40 39 58) 3 gX9_names_X9_isIn rfl rfl rfl (by decide +kernel) ⟨Nat.le_of_ble_eq_true rfl, Nat.le_of_ble_eq_true rfl⟩ rfl hl.1 rfl (Nat.le_of_ble_eq_true rfl) dX9_names_416 ⟨Nat.le_of_ble_eq_true rfl, Nat.le_of_ble_eq_true rfl⟩) (fun r_14 u_15 H locs h_13 hw => ?_)
  rw [if_pos (by decide)] at h_13
  subst h_13
  refine lv_if_eq (tgt := 483) hx hb dX9_names_419 (by decide) (fun c_ => absurd c_ (by decide)) (fun _ => ?_)
  refine lv_iload_n hx hb dX9_names_422 rfl (lv_at hl 3 rfl) ?_
  refine lv_bipush (v := 39) hx hb dX9_names_423 (by decide) ?_
  refine lv_isub hx hb dX9_names_425 ?_
  refine r_topi (x := 40 - 39) (y := 1) (by decide) ?_
  refine lv_bipush (v := 10) hx hb dX9_names_426 (by decide) ?_
  refine lv_irem hx hb dX9_names_428 (by decide) ?_
  refine r_topi (x := 1 - 1 / 10 * 10) (y := 1) (by decide) ?_
  refine lv_istore (lv' := [(5, .int 1), (4, .int 0), (3, .int 0), (2, .int 0), (0, .int 40), (1, .int wh)]) hx hb dX9_names_429 hl (by decide) rfl (fun ls hl => ?_)
  refine lv_iload hx hb dX9_names_431 (lv_at hl 0 rfl) ?_
  refine lv_iconst (v := 5) hx hb dX9_names_433 (by decide) ?_
  refine lv_icmp_ge (tgt := 441) hx hb dX9_names_434 (by decide) (fun c_ => absurd c_ (by decide)) (fun _ => ?_)
  refine lv_iconst (v := 1) hx hb dX9_names_437 (by decide) ?_
  refine lv_goto (tgt := 474) hx hb dX9_names_438 (by decide) ?_
  refine lv_istore_n (lv' := [(2, .int 1), (5, .int 1), (4, .int 0), (3, .int 0), (0, .int 40), (1, .int wh)]) hx hb dX9_names_474 rfl hl (by decide) rfl (fun ls hl => ?_)
  refine lv_iconst (v := 5) hx hb dX9_names_475 (by decide) ?_
  refine lv_istore_n (lv' := [(3, .int 5), (2, .int 1), (5, .int 1), (4, .int 0), (0, .int 40), (1, .int wh)]) hx hb dX9_names_476 rfl hl (by decide) rfl (fun ls hl => ?_)
  refine lv_iconst (v := 1) hx hb dX9_names_477 (by decide) ?_
  refine lv_istore (lv' := [(4, .int 1), (3, .int 5), (2, .int 1), (5, .int 1), (0, .int 40), (1, .int wh)]) hx hb dX9_names_478 hl (by decide) rfl (fun ls hl => ?_)
  refine lv_goto (tgt := 605) hx hb dX9_names_480 (by decide) ?_
  refine lv_iload_n hx hb dX9_names_605 rfl (lv_at hl 5 rfl) ?_
  refine lv_if_ne (tgt := 613) hx hb dX9_names_606 (by decide) (fun c_16 => ?_) (fun c_16 => ?_)
  · refine lv_iload_n hx hb dX9_names_613 rfl (lv_at hl 5 rfl) ?_
    refine lv_iconst (v := 1) hx hb dX9_names_614 (by decide) ?_
    refine lv_icmp_ne (tgt := 622) hx hb dX9_names_615 (by decide) (fun c_17 => ?_) (fun c_17 => ?_)
    · refine lv_iload hx hb dX9_names_622 (lv_at hl 0 rfl) ?_
      exact r_iret hC hr hlk hw () rfl ((if_neg c_16).trans (if_neg c_17)).symm (Nat.le_of_ble_eq_true rfl) (Nat.le_of_ble_eq_true rfl) dX9_names_624
    · refine lv_iload_n hx hb dX9_names_618 rfl (lv_at hl 1 rfl) ?_
      refine lv_goto (tgt := 624) hx hb dX9_names_619 (by decide) ?_
      exact r_iret hC hr hlk hw () rfl ((if_neg c_16).trans (if_pos c_17)).symm (Nat.le_of_ble_eq_true rfl) (Nat.le_of_ble_eq_true rfl) dX9_names_624
  · refine lv_iload_n hx hb dX9_names_609 rfl (lv_at hl 2 rfl) ?_
    refine lv_goto (tgt := 624) hx hb dX9_names_610 (by decide) ?_
    exact r_iret hC hr hlk hw () rfl (if_pos c_16).symm (Nat.le_of_ble_eq_true rfl) (Nat.le_of_ble_eq_true rfl) dX9_names_624

set_option maxHeartbeats 4000000 in
set_option maxRecDepth 100000 in
theorem c_X9_names_41 (l : Launch) {D : va_G} {q : Nat → ClassId} (w : wT) (sz : Nat) (wh : Int32) : Met l yX9_names wsX9_names (rmz 1 22) (va_Pc [.int 41, .int wh] (rPre D q w sz)) (va_Qi (fun (r : Int32) (u : Unit) => r = if wh = 0 then 1 else if wh = 1 then 5 else 1) (fun (u : Unit) tt => rPo D (rA w sz) w tt) (rA w sz)) 0 0 (rA w sz) := by
  refine r_start (cc := cX9_names) (maxL := 6) (ret := (some .int)) (by decide) rfl (Nat.le_of_ble_eq_true rfl) ?_
  intro p e s m below meth c ls hC hr hlk hnm hsz hw hl
  have hx := hC.1
  have hb := hC.2.1
  have hl : lv_has ls 6 [(0, .int 41), (1, .int wh)] := hl
  refine lv_iconst (v := 0) hx hb dX9_names_0 (by decide) ?_
  refine lv_istore_n (lv' := [(2, .int 0), (0, .int 41), (1, .int wh)]) hx hb dX9_names_1 rfl hl (by decide) rfl (fun ls hl => ?_)
  refine lv_iconst (v := 0) hx hb dX9_names_2 (by decide) ?_
  refine lv_istore_n (lv' := [(3, .int 0), (2, .int 0), (0, .int 41), (1, .int wh)]) hx hb dX9_names_3 rfl hl (by decide) rfl (fun ls hl => ?_)
  refine lv_iconst (v := 0) hx hb dX9_names_4 (by decide) ?_
  refine lv_istore (lv' := [(4, .int 0), (3, .int 0), (2, .int 0), (0, .int 41), (1, .int wh)]) hx hb dX9_names_5 hl (by decide) rfl (fun ls hl => ?_)
  refine lv_iload_n hx hb dX9_names_7 rfl (lv_at hl 3 rfl) ?_
  refine lv_iconst (v := 1) hx hb dX9_names_8 (by decide) ?_
  refine lv_icmp_eq (tgt := 24) hx hb dX9_names_9 (by decide) (fun c_ => absurd c_ (by decide)) (fun _ => ?_)
  refine lv_iload_n hx hb dX9_names_12 rfl (lv_at hl 3 rfl) ?_
  refine lv_bipush (v := 72) hx hb dX9_names_13 (by decide) ?_
  refine lv_icmp_eq (tgt := 24) hx hb dX9_names_15 (by decide) (fun c_ => absurd c_ (by decide)) (fun _ => ?_)
  refine lv_iload_n hx hb dX9_names_18 rfl (lv_at hl 3 rfl) ?_
  refine lv_bipush (v := 73) hx hb dX9_names_19 (by decide) ?_
  refine lv_icmp_ne (tgt := 29) hx hb dX9_names_21 (by decide) (fun _ => ?_) (fun c_ => absurd c_ (by decide))
  refine lv_iload_n hx hb dX9_names_29 rfl (lv_at hl 3 rfl) ?_
  refine lv_iconst (v := 2) hx hb dX9_names_30 (by decide) ?_
  refine lv_icmp_ne (tgt := 39) hx hb dX9_names_31 (by decide) (fun _ => ?_) (fun c_ => absurd c_ (by decide))
  refine lv_iload_n hx hb dX9_names_39 rfl (lv_at hl 3 rfl) ?_
  refine lv_iconst (v := 3) hx hb dX9_names_40 (by decide) ?_
  refine lv_icmp_ne (tgt := 51) hx hb dX9_names_41 (by decide) (fun _ => ?_) (fun c_ => absurd c_ (by decide))
  refine lv_iload_n hx hb dX9_names_51 rfl (lv_at hl 3 rfl) ?_
  refine lv_iconst (v := 4) hx hb dX9_names_52 (by decide) ?_
  refine lv_bipush (v := 8) hx hb dX9_names_53 (by decide) ?_
  refine r_ki hw (r_runS (rest := []) hC hw (c_X9_isIn l _ _ 41 4 8) 3 gX9_names_X9_isIn rfl rfl rfl (by decide +kernel) ⟨Nat.le_of_ble_eq_true rfl, Nat.le_of_ble_eq_true rfl⟩ rfl hl.1 rfl (Nat.le_of_ble_eq_true rfl) dX9_names_55 ⟨Nat.le_of_ble_eq_true rfl, Nat.le_of_ble_eq_true rfl⟩) (fun r_2 u_3 H locs h_1 hw => ?_)
  rw [if_neg (by decide)] at h_1
  subst h_1
  refine lv_if_ne (tgt := 67) hx hb dX9_names_58 (by decide) (fun c_ => absurd (by decide) c_) (fun _ => ?_)
  refine lv_iload_n hx hb dX9_names_61 rfl (lv_at hl 3 rfl) ?_
  refine lv_bipush (v := 25) hx hb dX9_names_62 (by decide) ?_
  refine lv_icmp_ne (tgt := 77) hx hb dX9_names_64 (by decide) (fun _ => ?_) (fun c_ => absurd c_ (by decide))
  refine lv_iload_n hx hb dX9_names_77 rfl (lv_at hl 3 rfl) ?_
  refine lv_bipush (v := 9) hx hb dX9_names_78 (by decide) ?_
  refine lv_bipush (v := 12) hx hb dX9_names_80 (by decide) ?_
  refine r_ki hw (r_runS (rest := []) hC hw (c_X9_isIn l _ _ 41 9 12) 3 gX9_names_X9_isIn rfl rfl rfl (by decide +kernel) ⟨Nat.le_of_ble_eq_true rfl, Nat.le_of_ble_eq_true rfl⟩ rfl hl.1 rfl (Nat.le_of_ble_eq_true rfl) dX9_names_82 ⟨Nat.le_of_ble_eq_true rfl, Nat.le_of_ble_eq_true rfl⟩) (fun r_5 u_6 H locs h_4 hw => ?_)
  rw [if_neg (by decide)] at h_4
  subst h_4
  refine lv_if_eq (tgt := 98) hx hb dX9_names_85 (by decide) (fun _ => ?_) (fun c_ => absurd (by decide) c_)
  refine lv_iload_n hx hb dX9_names_98 rfl (lv_at hl 3 rfl) ?_
  refine lv_bipush (v := 13) hx hb dX9_names_99 (by decide) ?_
  refine lv_bipush (v := 24) hx hb dX9_names_101 (by decide) ?_
  refine r_ki hw (r_runS (rest := []) hC hw (c_X9_isIn l _ _ 41 13 24) 3 gX9_names_X9_isIn rfl rfl rfl (by decide +kernel) ⟨Nat.le_of_ble_eq_true rfl, Nat.le_of_ble_eq_true rfl⟩ rfl hl.1 rfl (Nat.le_of_ble_eq_true rfl) dX9_names_103 ⟨Nat.le_of_ble_eq_true rfl, Nat.le_of_ble_eq_true rfl⟩) (fun r_8 u_9 H locs h_7 hw => ?_)
  rw [if_neg (by decide)] at h_7
  subst h_7
  refine lv_if_ne (tgt := 115) hx hb dX9_names_106 (by decide) (fun c_ => absurd (by decide) c_) (fun _ => ?_)
  refine lv_iload_n hx hb dX9_names_109 rfl (lv_at hl 3 rfl) ?_
  refine lv_bipush (v := 26) hx hb dX9_names_110 (by decide) ?_
  refine lv_icmp_ne (tgt := 270) hx hb dX9_names_112 (by decide) (fun _ => ?_) (fun c_ => absurd c_ (by decide))
  refine lv_iload_n hx hb dX9_names_270 rfl (lv_at hl 3 rfl) ?_
  refine lv_bipush (v := 27) hx hb dX9_names_271 (by decide) ?_
  refine lv_icmp_eq (tgt := 282) hx hb dX9_names_273 (by decide) (fun c_ => absurd c_ (by decide)) (fun _ => ?_)
  refine lv_iload_n hx hb dX9_names_276 rfl (lv_at hl 3 rfl) ?_
  refine lv_bipush (v := 29) hx hb dX9_names_277 (by decide) ?_
  refine lv_icmp_ne (tgt := 288) hx hb dX9_names_279 (by decide) (fun _ => ?_) (fun c_ => absurd c_ (by decide))
  refine lv_iload_n hx hb dX9_names_288 rfl (lv_at hl 3 rfl) ?_
  refine lv_bipush (v := 28) hx hb dX9_names_289 (by decide) ?_
  refine lv_icmp_ne (tgt := 302) hx hb dX9_names_291 (by decide) (fun _ => ?_) (fun c_ => absurd c_ (by decide))
  refine lv_iload_n hx hb dX9_names_302 rfl (lv_at hl 3 rfl) ?_
  refine lv_bipush (v := 31) hx hb dX9_names_303 (by decide) ?_
  refine lv_bipush (v := 38) hx hb dX9_names_305 (by decide) ?_
  refine r_ki hw (r_runS (rest := []) hC hw (c_X9_isIn l _ _ 41 31 38) 3 gX9_names_X9_isIn rfl rfl rfl (by decide +kernel) ⟨Nat.le_of_ble_eq_true rfl, Nat.le_of_ble_eq_true rfl⟩ rfl hl.1 rfl (Nat.le_of_ble_eq_true rfl) dX9_names_307 ⟨Nat.le_of_ble_eq_true rfl, Nat.le_of_ble_eq_true rfl⟩) (fun r_11 u_12 H locs h_10 hw => ?_)
  rw [if_neg (by decide)] at h_10
  subst h_10
  refine lv_if_eq (tgt := 411) hx hb dX9_names_310 (by decide) (fun _ => ?_) (fun c_ => absurd (by decide) c_)
  refine lv_iload_n hx hb dX9_names_411 rfl (lv_at hl 3 rfl) ?_
  refine lv_bipush (v := 39) hx hb dX9_names_412 (by decide) ?_
  refine lv_bipush (v := 58) hx hb dX9_names_414 (by decide) ?_
  refine r_ki hw (r_runS (rest := []) hC hw (c_X9_isIn l _ _ 41 39 58) 3 gX9_names_X9_isIn rfl rfl rfl (by decide +kernel) ⟨Nat.le_of_ble_eq_true rfl, Nat.le_of_ble_eq_true rfl⟩ rfl hl.1 rfl (Nat.le_of_ble_eq_true rfl) dX9_names_416 ⟨Nat.le_of_ble_eq_true rfl, Nat.le_of_ble_eq_true rfl⟩) (fun r_14 u_15 H locs h_13 hw => ?_)
  rw [if_pos (by decide)] at h_13
  subst h_13
  refine lv_if_eq (tgt := 483) hx hb dX9_names_419 (by decide) (fun c_ => absurd c_ (by decide)) (fun _ => ?_)
  refine lv_iload_n hx hb dX9_names_422 rfl (lv_at hl 3 rfl) ?_
  refine lv_bipush (v := 39) hx hb dX9_names_423 (by decide) ?_
  refine lv_isub hx hb dX9_names_425 ?_
  refine r_topi (x := 41 - 39) (y := 2) (by decide) ?_
  refine lv_bipush (v := 10) hx hb dX9_names_426 (by decide) ?_
  refine lv_irem hx hb dX9_names_428 (by decide) ?_
  refine r_topi (x := 2 - 2 / 10 * 10) (y := 2) (by decide) ?_
  refine lv_istore (lv' := [(5, .int 2), (4, .int 0), (3, .int 0), (2, .int 0), (0, .int 41), (1, .int wh)]) hx hb dX9_names_429 hl (by decide) rfl (fun ls hl => ?_)
  refine lv_iload hx hb dX9_names_431 (lv_at hl 0 rfl) ?_
  refine lv_iconst (v := 5) hx hb dX9_names_433 (by decide) ?_
  refine lv_icmp_ge (tgt := 441) hx hb dX9_names_434 (by decide) (fun c_ => absurd c_ (by decide)) (fun _ => ?_)
  refine lv_iconst (v := 1) hx hb dX9_names_437 (by decide) ?_
  refine lv_goto (tgt := 474) hx hb dX9_names_438 (by decide) ?_
  refine lv_istore_n (lv' := [(2, .int 1), (5, .int 2), (4, .int 0), (3, .int 0), (0, .int 41), (1, .int wh)]) hx hb dX9_names_474 rfl hl (by decide) rfl (fun ls hl => ?_)
  refine lv_iconst (v := 5) hx hb dX9_names_475 (by decide) ?_
  refine lv_istore_n (lv' := [(3, .int 5), (2, .int 1), (5, .int 2), (4, .int 0), (0, .int 41), (1, .int wh)]) hx hb dX9_names_476 rfl hl (by decide) rfl (fun ls hl => ?_)
  refine lv_iconst (v := 1) hx hb dX9_names_477 (by decide) ?_
  refine lv_istore (lv' := [(4, .int 1), (3, .int 5), (2, .int 1), (5, .int 2), (0, .int 41), (1, .int wh)]) hx hb dX9_names_478 hl (by decide) rfl (fun ls hl => ?_)
  refine lv_goto (tgt := 605) hx hb dX9_names_480 (by decide) ?_
  refine lv_iload_n hx hb dX9_names_605 rfl (lv_at hl 5 rfl) ?_
  refine lv_if_ne (tgt := 613) hx hb dX9_names_606 (by decide) (fun c_16 => ?_) (fun c_16 => ?_)
  · refine lv_iload_n hx hb dX9_names_613 rfl (lv_at hl 5 rfl) ?_
    refine lv_iconst (v := 1) hx hb dX9_names_614 (by decide) ?_
    refine lv_icmp_ne (tgt := 622) hx hb dX9_names_615 (by decide) (fun c_17 => ?_) (fun c_17 => ?_)
    · refine lv_iload hx hb dX9_names_622 (lv_at hl 0 rfl) ?_
      exact r_iret hC hr hlk hw () rfl ((if_neg c_16).trans (if_neg c_17)).symm (Nat.le_of_ble_eq_true rfl) (Nat.le_of_ble_eq_true rfl) dX9_names_624
    · refine lv_iload_n hx hb dX9_names_618 rfl (lv_at hl 1 rfl) ?_
      refine lv_goto (tgt := 624) hx hb dX9_names_619 (by decide) ?_
      exact r_iret hC hr hlk hw () rfl ((if_neg c_16).trans (if_pos c_17)).symm (Nat.le_of_ble_eq_true rfl) (Nat.le_of_ble_eq_true rfl) dX9_names_624
  · refine lv_iload_n hx hb dX9_names_609 rfl (lv_at hl 2 rfl) ?_
    refine lv_goto (tgt := 624) hx hb dX9_names_610 (by decide) ?_
    exact r_iret hC hr hlk hw () rfl (if_pos c_16).symm (Nat.le_of_ble_eq_true rfl) (Nat.le_of_ble_eq_true rfl) dX9_names_624

set_option maxHeartbeats 4000000 in
set_option maxRecDepth 100000 in
theorem c_X9_names_42 (l : Launch) {D : va_G} {q : Nat → ClassId} (w : wT) (sz : Nat) (wh : Int32) : Met l yX9_names wsX9_names (rmz 1 22) (va_Pc [.int 42, .int wh] (rPre D q w sz)) (va_Qi (fun (r : Int32) (u : Unit) => r = if wh = 0 then 1 else if wh = 1 then 5 else 1) (fun (u : Unit) tt => rPo D (rA w sz) w tt) (rA w sz)) 0 0 (rA w sz) := by
  refine r_start (cc := cX9_names) (maxL := 6) (ret := (some .int)) (by decide) rfl (Nat.le_of_ble_eq_true rfl) ?_
  intro p e s m below meth c ls hC hr hlk hnm hsz hw hl
  have hx := hC.1
  have hb := hC.2.1
  have hl : lv_has ls 6 [(0, .int 42), (1, .int wh)] := hl
  refine lv_iconst (v := 0) hx hb dX9_names_0 (by decide) ?_
  refine lv_istore_n (lv' := [(2, .int 0), (0, .int 42), (1, .int wh)]) hx hb dX9_names_1 rfl hl (by decide) rfl (fun ls hl => ?_)
  refine lv_iconst (v := 0) hx hb dX9_names_2 (by decide) ?_
  refine lv_istore_n (lv' := [(3, .int 0), (2, .int 0), (0, .int 42), (1, .int wh)]) hx hb dX9_names_3 rfl hl (by decide) rfl (fun ls hl => ?_)
  refine lv_iconst (v := 0) hx hb dX9_names_4 (by decide) ?_
  refine lv_istore (lv' := [(4, .int 0), (3, .int 0), (2, .int 0), (0, .int 42), (1, .int wh)]) hx hb dX9_names_5 hl (by decide) rfl (fun ls hl => ?_)
  refine lv_iload_n hx hb dX9_names_7 rfl (lv_at hl 3 rfl) ?_
  refine lv_iconst (v := 1) hx hb dX9_names_8 (by decide) ?_
  refine lv_icmp_eq (tgt := 24) hx hb dX9_names_9 (by decide) (fun c_ => absurd c_ (by decide)) (fun _ => ?_)
  refine lv_iload_n hx hb dX9_names_12 rfl (lv_at hl 3 rfl) ?_
  refine lv_bipush (v := 72) hx hb dX9_names_13 (by decide) ?_
  refine lv_icmp_eq (tgt := 24) hx hb dX9_names_15 (by decide) (fun c_ => absurd c_ (by decide)) (fun _ => ?_)
  refine lv_iload_n hx hb dX9_names_18 rfl (lv_at hl 3 rfl) ?_
  refine lv_bipush (v := 73) hx hb dX9_names_19 (by decide) ?_
  refine lv_icmp_ne (tgt := 29) hx hb dX9_names_21 (by decide) (fun _ => ?_) (fun c_ => absurd c_ (by decide))
  refine lv_iload_n hx hb dX9_names_29 rfl (lv_at hl 3 rfl) ?_
  refine lv_iconst (v := 2) hx hb dX9_names_30 (by decide) ?_
  refine lv_icmp_ne (tgt := 39) hx hb dX9_names_31 (by decide) (fun _ => ?_) (fun c_ => absurd c_ (by decide))
  refine lv_iload_n hx hb dX9_names_39 rfl (lv_at hl 3 rfl) ?_
  refine lv_iconst (v := 3) hx hb dX9_names_40 (by decide) ?_
  refine lv_icmp_ne (tgt := 51) hx hb dX9_names_41 (by decide) (fun _ => ?_) (fun c_ => absurd c_ (by decide))
  refine lv_iload_n hx hb dX9_names_51 rfl (lv_at hl 3 rfl) ?_
  refine lv_iconst (v := 4) hx hb dX9_names_52 (by decide) ?_
  refine lv_bipush (v := 8) hx hb dX9_names_53 (by decide) ?_
  refine r_ki hw (r_runS (rest := []) hC hw (c_X9_isIn l _ _ 42 4 8) 3 gX9_names_X9_isIn rfl rfl rfl (by decide +kernel) ⟨Nat.le_of_ble_eq_true rfl, Nat.le_of_ble_eq_true rfl⟩ rfl hl.1 rfl (Nat.le_of_ble_eq_true rfl) dX9_names_55 ⟨Nat.le_of_ble_eq_true rfl, Nat.le_of_ble_eq_true rfl⟩) (fun r_2 u_3 H locs h_1 hw => ?_)
  rw [if_neg (by decide)] at h_1
  subst h_1
  refine lv_if_ne (tgt := 67) hx hb dX9_names_58 (by decide) (fun c_ => absurd (by decide) c_) (fun _ => ?_)
  refine lv_iload_n hx hb dX9_names_61 rfl (lv_at hl 3 rfl) ?_
  refine lv_bipush (v := 25) hx hb dX9_names_62 (by decide) ?_
  refine lv_icmp_ne (tgt := 77) hx hb dX9_names_64 (by decide) (fun _ => ?_) (fun c_ => absurd c_ (by decide))
  refine lv_iload_n hx hb dX9_names_77 rfl (lv_at hl 3 rfl) ?_
  refine lv_bipush (v := 9) hx hb dX9_names_78 (by decide) ?_
  refine lv_bipush (v := 12) hx hb dX9_names_80 (by decide) ?_
  refine r_ki hw (r_runS (rest := []) hC hw (c_X9_isIn l _ _ 42 9 12) 3 gX9_names_X9_isIn rfl rfl rfl (by decide +kernel) ⟨Nat.le_of_ble_eq_true rfl, Nat.le_of_ble_eq_true rfl⟩ rfl hl.1 rfl (Nat.le_of_ble_eq_true rfl) dX9_names_82 ⟨Nat.le_of_ble_eq_true rfl, Nat.le_of_ble_eq_true rfl⟩) (fun r_5 u_6 H locs h_4 hw => ?_)
  rw [if_neg (by decide)] at h_4
  subst h_4
  refine lv_if_eq (tgt := 98) hx hb dX9_names_85 (by decide) (fun _ => ?_) (fun c_ => absurd (by decide) c_)
  refine lv_iload_n hx hb dX9_names_98 rfl (lv_at hl 3 rfl) ?_
  refine lv_bipush (v := 13) hx hb dX9_names_99 (by decide) ?_
  refine lv_bipush (v := 24) hx hb dX9_names_101 (by decide) ?_
  refine r_ki hw (r_runS (rest := []) hC hw (c_X9_isIn l _ _ 42 13 24) 3 gX9_names_X9_isIn rfl rfl rfl (by decide +kernel) ⟨Nat.le_of_ble_eq_true rfl, Nat.le_of_ble_eq_true rfl⟩ rfl hl.1 rfl (Nat.le_of_ble_eq_true rfl) dX9_names_103 ⟨Nat.le_of_ble_eq_true rfl, Nat.le_of_ble_eq_true rfl⟩) (fun r_8 u_9 H locs h_7 hw => ?_)
  rw [if_neg (by decide)] at h_7
  subst h_7
  refine lv_if_ne (tgt := 115) hx hb dX9_names_106 (by decide) (fun c_ => absurd (by decide) c_) (fun _ => ?_)
  refine lv_iload_n hx hb dX9_names_109 rfl (lv_at hl 3 rfl) ?_
  refine lv_bipush (v := 26) hx hb dX9_names_110 (by decide) ?_
  refine lv_icmp_ne (tgt := 270) hx hb dX9_names_112 (by decide) (fun _ => ?_) (fun c_ => absurd c_ (by decide))
  refine lv_iload_n hx hb dX9_names_270 rfl (lv_at hl 3 rfl) ?_
  refine lv_bipush (v := 27) hx hb dX9_names_271 (by decide) ?_
  refine lv_icmp_eq (tgt := 282) hx hb dX9_names_273 (by decide) (fun c_ => absurd c_ (by decide)) (fun _ => ?_)
  refine lv_iload_n hx hb dX9_names_276 rfl (lv_at hl 3 rfl) ?_
  refine lv_bipush (v := 29) hx hb dX9_names_277 (by decide) ?_
  refine lv_icmp_ne (tgt := 288) hx hb dX9_names_279 (by decide) (fun _ => ?_) (fun c_ => absurd c_ (by decide))
  refine lv_iload_n hx hb dX9_names_288 rfl (lv_at hl 3 rfl) ?_
  refine lv_bipush (v := 28) hx hb dX9_names_289 (by decide) ?_
  refine lv_icmp_ne (tgt := 302) hx hb dX9_names_291 (by decide) (fun _ => ?_) (fun c_ => absurd c_ (by decide))
  refine lv_iload_n hx hb dX9_names_302 rfl (lv_at hl 3 rfl) ?_
  refine lv_bipush (v := 31) hx hb dX9_names_303 (by decide) ?_
  refine lv_bipush (v := 38) hx hb dX9_names_305 (by decide) ?_
  refine r_ki hw (r_runS (rest := []) hC hw (c_X9_isIn l _ _ 42 31 38) 3 gX9_names_X9_isIn rfl rfl rfl (by decide +kernel) ⟨Nat.le_of_ble_eq_true rfl, Nat.le_of_ble_eq_true rfl⟩ rfl hl.1 rfl (Nat.le_of_ble_eq_true rfl) dX9_names_307 ⟨Nat.le_of_ble_eq_true rfl, Nat.le_of_ble_eq_true rfl⟩) (fun r_11 u_12 H locs h_10 hw => ?_)
  rw [if_neg (by decide)] at h_10
  subst h_10
  refine lv_if_eq (tgt := 411) hx hb dX9_names_310 (by decide) (fun _ => ?_) (fun c_ => absurd (by decide) c_)
  refine lv_iload_n hx hb dX9_names_411 rfl (lv_at hl 3 rfl) ?_
  refine lv_bipush (v := 39) hx hb dX9_names_412 (by decide) ?_
  refine lv_bipush (v := 58) hx hb dX9_names_414 (by decide) ?_
  refine r_ki hw (r_runS (rest := []) hC hw (c_X9_isIn l _ _ 42 39 58) 3 gX9_names_X9_isIn rfl rfl rfl (by decide +kernel) ⟨Nat.le_of_ble_eq_true rfl, Nat.le_of_ble_eq_true rfl⟩ rfl hl.1 rfl (Nat.le_of_ble_eq_true rfl) dX9_names_416 ⟨Nat.le_of_ble_eq_true rfl, Nat.le_of_ble_eq_true rfl⟩) (fun r_14 u_15 H locs h_13 hw => ?_)
  rw [if_pos (by decide)] at h_13
  subst h_13
  refine lv_if_eq (tgt := 483) hx hb dX9_names_419 (by decide) (fun c_ => absurd c_ (by decide)) (fun _ => ?_)
  refine lv_iload_n hx hb dX9_names_422 rfl (lv_at hl 3 rfl) ?_
  refine lv_bipush (v := 39) hx hb dX9_names_423 (by decide) ?_
  refine lv_isub hx hb dX9_names_425 ?_
  refine r_topi (x := 42 - 39) (y := 3) (by decide) ?_
  refine lv_bipush (v := 10) hx hb dX9_names_426 (by decide) ?_
  refine lv_irem hx hb dX9_names_428 (by decide) ?_
  refine r_topi (x := 3 - 3 / 10 * 10) (y := 3) (by decide) ?_
  refine lv_istore (lv' := [(5, .int 3), (4, .int 0), (3, .int 0), (2, .int 0), (0, .int 42), (1, .int wh)]) hx hb dX9_names_429 hl (by decide) rfl (fun ls hl => ?_)
  refine lv_iload hx hb dX9_names_431 (lv_at hl 0 rfl) ?_
  refine lv_iconst (v := 5) hx hb dX9_names_433 (by decide) ?_
  refine lv_icmp_ge (tgt := 441) hx hb dX9_names_434 (by decide) (fun c_ => absurd c_ (by decide)) (fun _ => ?_)
  refine lv_iconst (v := 1) hx hb dX9_names_437 (by decide) ?_
  refine lv_goto (tgt := 474) hx hb dX9_names_438 (by decide) ?_
  refine lv_istore_n (lv' := [(2, .int 1), (5, .int 3), (4, .int 0), (3, .int 0), (0, .int 42), (1, .int wh)]) hx hb dX9_names_474 rfl hl (by decide) rfl (fun ls hl => ?_)
  refine lv_iconst (v := 5) hx hb dX9_names_475 (by decide) ?_
  refine lv_istore_n (lv' := [(3, .int 5), (2, .int 1), (5, .int 3), (4, .int 0), (0, .int 42), (1, .int wh)]) hx hb dX9_names_476 rfl hl (by decide) rfl (fun ls hl => ?_)
  refine lv_iconst (v := 1) hx hb dX9_names_477 (by decide) ?_
  refine lv_istore (lv' := [(4, .int 1), (3, .int 5), (2, .int 1), (5, .int 3), (0, .int 42), (1, .int wh)]) hx hb dX9_names_478 hl (by decide) rfl (fun ls hl => ?_)
  refine lv_goto (tgt := 605) hx hb dX9_names_480 (by decide) ?_
  refine lv_iload_n hx hb dX9_names_605 rfl (lv_at hl 5 rfl) ?_
  refine lv_if_ne (tgt := 613) hx hb dX9_names_606 (by decide) (fun c_16 => ?_) (fun c_16 => ?_)
  · refine lv_iload_n hx hb dX9_names_613 rfl (lv_at hl 5 rfl) ?_
    refine lv_iconst (v := 1) hx hb dX9_names_614 (by decide) ?_
    refine lv_icmp_ne (tgt := 622) hx hb dX9_names_615 (by decide) (fun c_17 => ?_) (fun c_17 => ?_)
    · refine lv_iload hx hb dX9_names_622 (lv_at hl 0 rfl) ?_
      exact r_iret hC hr hlk hw () rfl ((if_neg c_16).trans (if_neg c_17)).symm (Nat.le_of_ble_eq_true rfl) (Nat.le_of_ble_eq_true rfl) dX9_names_624
    · refine lv_iload_n hx hb dX9_names_618 rfl (lv_at hl 1 rfl) ?_
      refine lv_goto (tgt := 624) hx hb dX9_names_619 (by decide) ?_
      exact r_iret hC hr hlk hw () rfl ((if_neg c_16).trans (if_pos c_17)).symm (Nat.le_of_ble_eq_true rfl) (Nat.le_of_ble_eq_true rfl) dX9_names_624
  · refine lv_iload_n hx hb dX9_names_609 rfl (lv_at hl 2 rfl) ?_
    refine lv_goto (tgt := 624) hx hb dX9_names_610 (by decide) ?_
    exact r_iret hC hr hlk hw () rfl (if_pos c_16).symm (Nat.le_of_ble_eq_true rfl) (Nat.le_of_ble_eq_true rfl) dX9_names_624

set_option maxHeartbeats 4000000 in
set_option maxRecDepth 100000 in
theorem c_X9_names_43 (l : Launch) {D : va_G} {q : Nat → ClassId} (w : wT) (sz : Nat) (wh : Int32) : Met l yX9_names wsX9_names (rmz 1 22) (va_Pc [.int 43, .int wh] (rPre D q w sz)) (va_Qi (fun (r : Int32) (u : Unit) => r = if wh = 0 then 1 else if wh = 1 then 5 else 1) (fun (u : Unit) tt => rPo D (rA w sz) w tt) (rA w sz)) 0 0 (rA w sz) := by
  refine r_start (cc := cX9_names) (maxL := 6) (ret := (some .int)) (by decide) rfl (Nat.le_of_ble_eq_true rfl) ?_
  intro p e s m below meth c ls hC hr hlk hnm hsz hw hl
  have hx := hC.1
  have hb := hC.2.1
  have hl : lv_has ls 6 [(0, .int 43), (1, .int wh)] := hl
  refine lv_iconst (v := 0) hx hb dX9_names_0 (by decide) ?_
  refine lv_istore_n (lv' := [(2, .int 0), (0, .int 43), (1, .int wh)]) hx hb dX9_names_1 rfl hl (by decide) rfl (fun ls hl => ?_)
  refine lv_iconst (v := 0) hx hb dX9_names_2 (by decide) ?_
  refine lv_istore_n (lv' := [(3, .int 0), (2, .int 0), (0, .int 43), (1, .int wh)]) hx hb dX9_names_3 rfl hl (by decide) rfl (fun ls hl => ?_)
  refine lv_iconst (v := 0) hx hb dX9_names_4 (by decide) ?_
  refine lv_istore (lv' := [(4, .int 0), (3, .int 0), (2, .int 0), (0, .int 43), (1, .int wh)]) hx hb dX9_names_5 hl (by decide) rfl (fun ls hl => ?_)
  refine lv_iload_n hx hb dX9_names_7 rfl (lv_at hl 3 rfl) ?_
  refine lv_iconst (v := 1) hx hb dX9_names_8 (by decide) ?_
  refine lv_icmp_eq (tgt := 24) hx hb dX9_names_9 (by decide) (fun c_ => absurd c_ (by decide)) (fun _ => ?_)
  refine lv_iload_n hx hb dX9_names_12 rfl (lv_at hl 3 rfl) ?_
  refine lv_bipush (v := 72) hx hb dX9_names_13 (by decide) ?_
  refine lv_icmp_eq (tgt := 24) hx hb dX9_names_15 (by decide) (fun c_ => absurd c_ (by decide)) (fun _ => ?_)
  refine lv_iload_n hx hb dX9_names_18 rfl (lv_at hl 3 rfl) ?_
  refine lv_bipush (v := 73) hx hb dX9_names_19 (by decide) ?_
  refine lv_icmp_ne (tgt := 29) hx hb dX9_names_21 (by decide) (fun _ => ?_) (fun c_ => absurd c_ (by decide))
  refine lv_iload_n hx hb dX9_names_29 rfl (lv_at hl 3 rfl) ?_
  refine lv_iconst (v := 2) hx hb dX9_names_30 (by decide) ?_
  refine lv_icmp_ne (tgt := 39) hx hb dX9_names_31 (by decide) (fun _ => ?_) (fun c_ => absurd c_ (by decide))
  refine lv_iload_n hx hb dX9_names_39 rfl (lv_at hl 3 rfl) ?_
  refine lv_iconst (v := 3) hx hb dX9_names_40 (by decide) ?_
  refine lv_icmp_ne (tgt := 51) hx hb dX9_names_41 (by decide) (fun _ => ?_) (fun c_ => absurd c_ (by decide))
  refine lv_iload_n hx hb dX9_names_51 rfl (lv_at hl 3 rfl) ?_
  refine lv_iconst (v := 4) hx hb dX9_names_52 (by decide) ?_
  refine lv_bipush (v := 8) hx hb dX9_names_53 (by decide) ?_
  refine r_ki hw (r_runS (rest := []) hC hw (c_X9_isIn l _ _ 43 4 8) 3 gX9_names_X9_isIn rfl rfl rfl (by decide +kernel) ⟨Nat.le_of_ble_eq_true rfl, Nat.le_of_ble_eq_true rfl⟩ rfl hl.1 rfl (Nat.le_of_ble_eq_true rfl) dX9_names_55 ⟨Nat.le_of_ble_eq_true rfl, Nat.le_of_ble_eq_true rfl⟩) (fun r_2 u_3 H locs h_1 hw => ?_)
  rw [if_neg (by decide)] at h_1
  subst h_1
  refine lv_if_ne (tgt := 67) hx hb dX9_names_58 (by decide) (fun c_ => absurd (by decide) c_) (fun _ => ?_)
  refine lv_iload_n hx hb dX9_names_61 rfl (lv_at hl 3 rfl) ?_
  refine lv_bipush (v := 25) hx hb dX9_names_62 (by decide) ?_
  refine lv_icmp_ne (tgt := 77) hx hb dX9_names_64 (by decide) (fun _ => ?_) (fun c_ => absurd c_ (by decide))
  refine lv_iload_n hx hb dX9_names_77 rfl (lv_at hl 3 rfl) ?_
  refine lv_bipush (v := 9) hx hb dX9_names_78 (by decide) ?_
  refine lv_bipush (v := 12) hx hb dX9_names_80 (by decide) ?_
  refine r_ki hw (r_runS (rest := []) hC hw (c_X9_isIn l _ _ 43 9 12) 3 gX9_names_X9_isIn rfl rfl rfl (by decide +kernel) ⟨Nat.le_of_ble_eq_true rfl, Nat.le_of_ble_eq_true rfl⟩ rfl hl.1 rfl (Nat.le_of_ble_eq_true rfl) dX9_names_82 ⟨Nat.le_of_ble_eq_true rfl, Nat.le_of_ble_eq_true rfl⟩) (fun r_5 u_6 H locs h_4 hw => ?_)
  rw [if_neg (by decide)] at h_4
  subst h_4
  refine lv_if_eq (tgt := 98) hx hb dX9_names_85 (by decide) (fun _ => ?_) (fun c_ => absurd (by decide) c_)
  refine lv_iload_n hx hb dX9_names_98 rfl (lv_at hl 3 rfl) ?_
  refine lv_bipush (v := 13) hx hb dX9_names_99 (by decide) ?_
  refine lv_bipush (v := 24) hx hb dX9_names_101 (by decide) ?_
  refine r_ki hw (r_runS (rest := []) hC hw (c_X9_isIn l _ _ 43 13 24) 3 gX9_names_X9_isIn rfl rfl rfl (by decide +kernel) ⟨Nat.le_of_ble_eq_true rfl, Nat.le_of_ble_eq_true rfl⟩ rfl hl.1 rfl (Nat.le_of_ble_eq_true rfl) dX9_names_103 ⟨Nat.le_of_ble_eq_true rfl, Nat.le_of_ble_eq_true rfl⟩) (fun r_8 u_9 H locs h_7 hw => ?_)
  rw [if_neg (by decide)] at h_7
  subst h_7
  refine lv_if_ne (tgt := 115) hx hb dX9_names_106 (by decide) (fun c_ => absurd (by decide) c_) (fun _ => ?_)
  refine lv_iload_n hx hb dX9_names_109 rfl (lv_at hl 3 rfl) ?_
  refine lv_bipush (v := 26) hx hb dX9_names_110 (by decide) ?_
  refine lv_icmp_ne (tgt := 270) hx hb dX9_names_112 (by decide) (fun _ => ?_) (fun c_ => absurd c_ (by decide))
  refine lv_iload_n hx hb dX9_names_270 rfl (lv_at hl 3 rfl) ?_
  refine lv_bipush (v := 27) hx hb dX9_names_271 (by decide) ?_
  refine lv_icmp_eq (tgt := 282) hx hb dX9_names_273 (by decide) (fun c_ => absurd c_ (by decide)) (fun _ => ?_)
  refine lv_iload_n hx hb dX9_names_276 rfl (lv_at hl 3 rfl) ?_
  refine lv_bipush (v := 29) hx hb dX9_names_277 (by decide) ?_
  refine lv_icmp_ne (tgt := 288) hx hb dX9_names_279 (by decide) (fun _ => ?_) (fun c_ => absurd c_ (by decide))
  refine lv_iload_n hx hb dX9_names_288 rfl (lv_at hl 3 rfl) ?_
  refine lv_bipush (v := 28) hx hb dX9_names_289 (by decide) ?_
  refine lv_icmp_ne (tgt := 302) hx hb dX9_names_291 (by decide) (fun _ => ?_) (fun c_ => absurd c_ (by decide))
  refine lv_iload_n hx hb dX9_names_302 rfl (lv_at hl 3 rfl) ?_
  refine lv_bipush (v := 31) hx hb dX9_names_303 (by decide) ?_
  refine lv_bipush (v := 38) hx hb dX9_names_305 (by decide) ?_
  refine r_ki hw (r_runS (rest := []) hC hw (c_X9_isIn l _ _ 43 31 38) 3 gX9_names_X9_isIn rfl rfl rfl (by decide +kernel) ⟨Nat.le_of_ble_eq_true rfl, Nat.le_of_ble_eq_true rfl⟩ rfl hl.1 rfl (Nat.le_of_ble_eq_true rfl) dX9_names_307 ⟨Nat.le_of_ble_eq_true rfl, Nat.le_of_ble_eq_true rfl⟩) (fun r_11 u_12 H locs h_10 hw => ?_)
  rw [if_neg (by decide)] at h_10
  subst h_10
  refine lv_if_eq (tgt := 411) hx hb dX9_names_310 (by decide) (fun _ => ?_) (fun c_ => absurd (by decide) c_)
  refine lv_iload_n hx hb dX9_names_411 rfl (lv_at hl 3 rfl) ?_
  refine lv_bipush (v := 39) hx hb dX9_names_412 (by decide) ?_
  refine lv_bipush (v := 58) hx hb dX9_names_414 (by decide) ?_
  refine r_ki hw (r_runS (rest := []) hC hw (c_X9_isIn l _ _ 43 39 58) 3 gX9_names_X9_isIn rfl rfl rfl (by decide +kernel) ⟨Nat.le_of_ble_eq_true rfl, Nat.le_of_ble_eq_true rfl⟩ rfl hl.1 rfl (Nat.le_of_ble_eq_true rfl) dX9_names_416 ⟨Nat.le_of_ble_eq_true rfl, Nat.le_of_ble_eq_true rfl⟩) (fun r_14 u_15 H locs h_13 hw => ?_)
  rw [if_pos (by decide)] at h_13
  subst h_13
  refine lv_if_eq (tgt := 483) hx hb dX9_names_419 (by decide) (fun c_ => absurd c_ (by decide)) (fun _ => ?_)
  refine lv_iload_n hx hb dX9_names_422 rfl (lv_at hl 3 rfl) ?_
  refine lv_bipush (v := 39) hx hb dX9_names_423 (by decide) ?_
  refine lv_isub hx hb dX9_names_425 ?_
  refine r_topi (x := 43 - 39) (y := 4) (by decide) ?_
  refine lv_bipush (v := 10) hx hb dX9_names_426 (by decide) ?_
  refine lv_irem hx hb dX9_names_428 (by decide) ?_
  refine r_topi (x := 4 - 4 / 10 * 10) (y := 4) (by decide) ?_
  refine lv_istore (lv' := [(5, .int 4), (4, .int 0), (3, .int 0), (2, .int 0), (0, .int 43), (1, .int wh)]) hx hb dX9_names_429 hl (by decide) rfl (fun ls hl => ?_)
  refine lv_iload hx hb dX9_names_431 (lv_at hl 0 rfl) ?_
  refine lv_iconst (v := 5) hx hb dX9_names_433 (by decide) ?_
  refine lv_icmp_ge (tgt := 441) hx hb dX9_names_434 (by decide) (fun c_ => absurd c_ (by decide)) (fun _ => ?_)
  refine lv_iconst (v := 1) hx hb dX9_names_437 (by decide) ?_
  refine lv_goto (tgt := 474) hx hb dX9_names_438 (by decide) ?_
  refine lv_istore_n (lv' := [(2, .int 1), (5, .int 4), (4, .int 0), (3, .int 0), (0, .int 43), (1, .int wh)]) hx hb dX9_names_474 rfl hl (by decide) rfl (fun ls hl => ?_)
  refine lv_iconst (v := 5) hx hb dX9_names_475 (by decide) ?_
  refine lv_istore_n (lv' := [(3, .int 5), (2, .int 1), (5, .int 4), (4, .int 0), (0, .int 43), (1, .int wh)]) hx hb dX9_names_476 rfl hl (by decide) rfl (fun ls hl => ?_)
  refine lv_iconst (v := 1) hx hb dX9_names_477 (by decide) ?_
  refine lv_istore (lv' := [(4, .int 1), (3, .int 5), (2, .int 1), (5, .int 4), (0, .int 43), (1, .int wh)]) hx hb dX9_names_478 hl (by decide) rfl (fun ls hl => ?_)
  refine lv_goto (tgt := 605) hx hb dX9_names_480 (by decide) ?_
  refine lv_iload_n hx hb dX9_names_605 rfl (lv_at hl 5 rfl) ?_
  refine lv_if_ne (tgt := 613) hx hb dX9_names_606 (by decide) (fun c_16 => ?_) (fun c_16 => ?_)
  · refine lv_iload_n hx hb dX9_names_613 rfl (lv_at hl 5 rfl) ?_
    refine lv_iconst (v := 1) hx hb dX9_names_614 (by decide) ?_
    refine lv_icmp_ne (tgt := 622) hx hb dX9_names_615 (by decide) (fun c_17 => ?_) (fun c_17 => ?_)
    · refine lv_iload hx hb dX9_names_622 (lv_at hl 0 rfl) ?_
      exact r_iret hC hr hlk hw () rfl ((if_neg c_16).trans (if_neg c_17)).symm (Nat.le_of_ble_eq_true rfl) (Nat.le_of_ble_eq_true rfl) dX9_names_624
    · refine lv_iload_n hx hb dX9_names_618 rfl (lv_at hl 1 rfl) ?_
      refine lv_goto (tgt := 624) hx hb dX9_names_619 (by decide) ?_
      exact r_iret hC hr hlk hw () rfl ((if_neg c_16).trans (if_pos c_17)).symm (Nat.le_of_ble_eq_true rfl) (Nat.le_of_ble_eq_true rfl) dX9_names_624
  · refine lv_iload_n hx hb dX9_names_609 rfl (lv_at hl 2 rfl) ?_
    refine lv_goto (tgt := 624) hx hb dX9_names_610 (by decide) ?_
    exact r_iret hC hr hlk hw () rfl (if_pos c_16).symm (Nat.le_of_ble_eq_true rfl) (Nat.le_of_ble_eq_true rfl) dX9_names_624

set_option maxHeartbeats 4000000 in
set_option maxRecDepth 100000 in
theorem c_X9_names_44 (l : Launch) {D : va_G} {q : Nat → ClassId} (w : wT) (sz : Nat) (wh : Int32) : Met l yX9_names wsX9_names (rmz 1 22) (va_Pc [.int 44, .int wh] (rPre D q w sz)) (va_Qi (fun (r : Int32) (u : Unit) => r = if wh = 0 then 2 else if wh = 1 then 5 else 1) (fun (u : Unit) tt => rPo D (rA w sz) w tt) (rA w sz)) 0 0 (rA w sz) := by
  refine r_start (cc := cX9_names) (maxL := 6) (ret := (some .int)) (by decide) rfl (Nat.le_of_ble_eq_true rfl) ?_
  intro p e s m below meth c ls hC hr hlk hnm hsz hw hl
  have hx := hC.1
  have hb := hC.2.1
  have hl : lv_has ls 6 [(0, .int 44), (1, .int wh)] := hl
  refine lv_iconst (v := 0) hx hb dX9_names_0 (by decide) ?_
  refine lv_istore_n (lv' := [(2, .int 0), (0, .int 44), (1, .int wh)]) hx hb dX9_names_1 rfl hl (by decide) rfl (fun ls hl => ?_)
  refine lv_iconst (v := 0) hx hb dX9_names_2 (by decide) ?_
  refine lv_istore_n (lv' := [(3, .int 0), (2, .int 0), (0, .int 44), (1, .int wh)]) hx hb dX9_names_3 rfl hl (by decide) rfl (fun ls hl => ?_)
  refine lv_iconst (v := 0) hx hb dX9_names_4 (by decide) ?_
  refine lv_istore (lv' := [(4, .int 0), (3, .int 0), (2, .int 0), (0, .int 44), (1, .int wh)]) hx hb dX9_names_5 hl (by decide) rfl (fun ls hl => ?_)
  refine lv_iload_n hx hb dX9_names_7 rfl (lv_at hl 3 rfl) ?_
  refine lv_iconst (v := 1) hx hb dX9_names_8 (by decide) ?_
  refine lv_icmp_eq (tgt := 24) hx hb dX9_names_9 (by decide) (fun c_ => absurd c_ (by decide)) (fun _ => ?_)
  refine lv_iload_n hx hb dX9_names_12 rfl (lv_at hl 3 rfl) ?_
  refine lv_bipush (v := 72) hx hb dX9_names_13 (by decide) ?_
  refine lv_icmp_eq (tgt := 24) hx hb dX9_names_15 (by decide) (fun c_ => absurd c_ (by decide)) (fun _ => ?_)
  refine lv_iload_n hx hb dX9_names_18 rfl (lv_at hl 3 rfl) ?_
  refine lv_bipush (v := 73) hx hb dX9_names_19 (by decide) ?_
  refine lv_icmp_ne (tgt := 29) hx hb dX9_names_21 (by decide) (fun _ => ?_) (fun c_ => absurd c_ (by decide))
  refine lv_iload_n hx hb dX9_names_29 rfl (lv_at hl 3 rfl) ?_
  refine lv_iconst (v := 2) hx hb dX9_names_30 (by decide) ?_
  refine lv_icmp_ne (tgt := 39) hx hb dX9_names_31 (by decide) (fun _ => ?_) (fun c_ => absurd c_ (by decide))
  refine lv_iload_n hx hb dX9_names_39 rfl (lv_at hl 3 rfl) ?_
  refine lv_iconst (v := 3) hx hb dX9_names_40 (by decide) ?_
  refine lv_icmp_ne (tgt := 51) hx hb dX9_names_41 (by decide) (fun _ => ?_) (fun c_ => absurd c_ (by decide))
  refine lv_iload_n hx hb dX9_names_51 rfl (lv_at hl 3 rfl) ?_
  refine lv_iconst (v := 4) hx hb dX9_names_52 (by decide) ?_
  refine lv_bipush (v := 8) hx hb dX9_names_53 (by decide) ?_
  refine r_ki hw (r_runS (rest := []) hC hw (c_X9_isIn l _ _ 44 4 8) 3 gX9_names_X9_isIn rfl rfl rfl (by decide +kernel) ⟨Nat.le_of_ble_eq_true rfl, Nat.le_of_ble_eq_true rfl⟩ rfl hl.1 rfl (Nat.le_of_ble_eq_true rfl) dX9_names_55 ⟨Nat.le_of_ble_eq_true rfl, Nat.le_of_ble_eq_true rfl⟩) (fun r_2 u_3 H locs h_1 hw => ?_)
  rw [if_neg (by decide)] at h_1
  subst h_1
  refine lv_if_ne (tgt := 67) hx hb dX9_names_58 (by decide) (fun c_ => absurd (by decide) c_) (fun _ => ?_)
  refine lv_iload_n hx hb dX9_names_61 rfl (lv_at hl 3 rfl) ?_
  refine lv_bipush (v := 25) hx hb dX9_names_62 (by decide) ?_
  refine lv_icmp_ne (tgt := 77) hx hb dX9_names_64 (by decide) (fun _ => ?_) (fun c_ => absurd c_ (by decide))
  refine lv_iload_n hx hb dX9_names_77 rfl (lv_at hl 3 rfl) ?_
  refine lv_bipush (v := 9) hx hb dX9_names_78 (by decide) ?_
  refine lv_bipush (v := 12) hx hb dX9_names_80 (by decide) ?_
  refine r_ki hw (r_runS (rest := []) hC hw (c_X9_isIn l _ _ 44 9 12) 3 gX9_names_X9_isIn rfl rfl rfl (by decide +kernel) ⟨Nat.le_of_ble_eq_true rfl, Nat.le_of_ble_eq_true rfl⟩ rfl hl.1 rfl (Nat.le_of_ble_eq_true rfl) dX9_names_82 ⟨Nat.le_of_ble_eq_true rfl, Nat.le_of_ble_eq_true rfl⟩) (fun r_5 u_6 H locs h_4 hw => ?_)
  rw [if_neg (by decide)] at h_4
  subst h_4
  refine lv_if_eq (tgt := 98) hx hb dX9_names_85 (by decide) (fun _ => ?_) (fun c_ => absurd (by decide) c_)
  refine lv_iload_n hx hb dX9_names_98 rfl (lv_at hl 3 rfl) ?_
  refine lv_bipush (v := 13) hx hb dX9_names_99 (by decide) ?_
  refine lv_bipush (v := 24) hx hb dX9_names_101 (by decide) ?_
  refine r_ki hw (r_runS (rest := []) hC hw (c_X9_isIn l _ _ 44 13 24) 3 gX9_names_X9_isIn rfl rfl rfl (by decide +kernel) ⟨Nat.le_of_ble_eq_true rfl, Nat.le_of_ble_eq_true rfl⟩ rfl hl.1 rfl (Nat.le_of_ble_eq_true rfl) dX9_names_103 ⟨Nat.le_of_ble_eq_true rfl, Nat.le_of_ble_eq_true rfl⟩) (fun r_8 u_9 H locs h_7 hw => ?_)
  rw [if_neg (by decide)] at h_7
  subst h_7
  refine lv_if_ne (tgt := 115) hx hb dX9_names_106 (by decide) (fun c_ => absurd (by decide) c_) (fun _ => ?_)
  refine lv_iload_n hx hb dX9_names_109 rfl (lv_at hl 3 rfl) ?_
  refine lv_bipush (v := 26) hx hb dX9_names_110 (by decide) ?_
  refine lv_icmp_ne (tgt := 270) hx hb dX9_names_112 (by decide) (fun _ => ?_) (fun c_ => absurd c_ (by decide))
  refine lv_iload_n hx hb dX9_names_270 rfl (lv_at hl 3 rfl) ?_
  refine lv_bipush (v := 27) hx hb dX9_names_271 (by decide) ?_
  refine lv_icmp_eq (tgt := 282) hx hb dX9_names_273 (by decide) (fun c_ => absurd c_ (by decide)) (fun _ => ?_)
  refine lv_iload_n hx hb dX9_names_276 rfl (lv_at hl 3 rfl) ?_
  refine lv_bipush (v := 29) hx hb dX9_names_277 (by decide) ?_
  refine lv_icmp_ne (tgt := 288) hx hb dX9_names_279 (by decide) (fun _ => ?_) (fun c_ => absurd c_ (by decide))
  refine lv_iload_n hx hb dX9_names_288 rfl (lv_at hl 3 rfl) ?_
  refine lv_bipush (v := 28) hx hb dX9_names_289 (by decide) ?_
  refine lv_icmp_ne (tgt := 302) hx hb dX9_names_291 (by decide) (fun _ => ?_) (fun c_ => absurd c_ (by decide))
  refine lv_iload_n hx hb dX9_names_302 rfl (lv_at hl 3 rfl) ?_
  refine lv_bipush (v := 31) hx hb dX9_names_303 (by decide) ?_
  refine lv_bipush (v := 38) hx hb dX9_names_305 (by decide) ?_
  refine r_ki hw (r_runS (rest := []) hC hw (c_X9_isIn l _ _ 44 31 38) 3 gX9_names_X9_isIn rfl rfl rfl (by decide +kernel) ⟨Nat.le_of_ble_eq_true rfl, Nat.le_of_ble_eq_true rfl⟩ rfl hl.1 rfl (Nat.le_of_ble_eq_true rfl) dX9_names_307 ⟨Nat.le_of_ble_eq_true rfl, Nat.le_of_ble_eq_true rfl⟩) (fun r_11 u_12 H locs h_10 hw => ?_)
  rw [if_neg (by decide)] at h_10
  subst h_10
  refine lv_if_eq (tgt := 411) hx hb dX9_names_310 (by decide) (fun _ => ?_) (fun c_ => absurd (by decide) c_)
  refine lv_iload_n hx hb dX9_names_411 rfl (lv_at hl 3 rfl) ?_
  refine lv_bipush (v := 39) hx hb dX9_names_412 (by decide) ?_
  refine lv_bipush (v := 58) hx hb dX9_names_414 (by decide) ?_
  refine r_ki hw (r_runS (rest := []) hC hw (c_X9_isIn l _ _ 44 39 58) 3 gX9_names_X9_isIn rfl rfl rfl (by decide +kernel) ⟨Nat.le_of_ble_eq_true rfl, Nat.le_of_ble_eq_true rfl⟩ rfl hl.1 rfl (Nat.le_of_ble_eq_true rfl) dX9_names_416 ⟨Nat.le_of_ble_eq_true rfl, Nat.le_of_ble_eq_true rfl⟩) (fun r_14 u_15 H locs h_13 hw => ?_)
  rw [if_pos (by decide)] at h_13
  subst h_13
  refine lv_if_eq (tgt := 483) hx hb dX9_names_419 (by decide) (fun c_ => absurd c_ (by decide)) (fun _ => ?_)
  refine lv_iload_n hx hb dX9_names_422 rfl (lv_at hl 3 rfl) ?_
  refine lv_bipush (v := 39) hx hb dX9_names_423 (by decide) ?_
  refine lv_isub hx hb dX9_names_425 ?_
  refine r_topi (x := 44 - 39) (y := 5) (by decide) ?_
  refine lv_bipush (v := 10) hx hb dX9_names_426 (by decide) ?_
  refine lv_irem hx hb dX9_names_428 (by decide) ?_
  refine r_topi (x := 5 - 5 / 10 * 10) (y := 5) (by decide) ?_
  refine lv_istore (lv' := [(5, .int 5), (4, .int 0), (3, .int 0), (2, .int 0), (0, .int 44), (1, .int wh)]) hx hb dX9_names_429 hl (by decide) rfl (fun ls hl => ?_)
  refine lv_iload hx hb dX9_names_431 (lv_at hl 0 rfl) ?_
  refine lv_iconst (v := 5) hx hb dX9_names_433 (by decide) ?_
  refine lv_icmp_ge (tgt := 441) hx hb dX9_names_434 (by decide) (fun _ => ?_) (fun c_ => absurd (by decide) c_)
  refine lv_iload hx hb dX9_names_441 (lv_at hl 0 rfl) ?_
  refine lv_iconst (v := 5) hx hb dX9_names_443 (by decide) ?_
  refine lv_icmp_ne (tgt := 451) hx hb dX9_names_444 (by decide) (fun c_ => absurd (by decide) c_) (fun _ => ?_)
  refine lv_iconst (v := 2) hx hb dX9_names_447 (by decide) ?_
  refine lv_goto (tgt := 474) hx hb dX9_names_448 (by decide) ?_
  refine lv_istore_n (lv' := [(2, .int 2), (5, .int 5), (4, .int 0), (3, .int 0), (0, .int 44), (1, .int wh)]) hx hb dX9_names_474 rfl hl (by decide) rfl (fun ls hl => ?_)
  refine lv_iconst (v := 5) hx hb dX9_names_475 (by decide) ?_
  refine lv_istore_n (lv' := [(3, .int 5), (2, .int 2), (5, .int 5), (4, .int 0), (0, .int 44), (1, .int wh)]) hx hb dX9_names_476 rfl hl (by decide) rfl (fun ls hl => ?_)
  refine lv_iconst (v := 1) hx hb dX9_names_477 (by decide) ?_
  refine lv_istore (lv' := [(4, .int 1), (3, .int 5), (2, .int 2), (5, .int 5), (0, .int 44), (1, .int wh)]) hx hb dX9_names_478 hl (by decide) rfl (fun ls hl => ?_)
  refine lv_goto (tgt := 605) hx hb dX9_names_480 (by decide) ?_
  refine lv_iload_n hx hb dX9_names_605 rfl (lv_at hl 5 rfl) ?_
  refine lv_if_ne (tgt := 613) hx hb dX9_names_606 (by decide) (fun c_16 => ?_) (fun c_16 => ?_)
  · refine lv_iload_n hx hb dX9_names_613 rfl (lv_at hl 5 rfl) ?_
    refine lv_iconst (v := 1) hx hb dX9_names_614 (by decide) ?_
    refine lv_icmp_ne (tgt := 622) hx hb dX9_names_615 (by decide) (fun c_17 => ?_) (fun c_17 => ?_)
    · refine lv_iload hx hb dX9_names_622 (lv_at hl 0 rfl) ?_
      exact r_iret hC hr hlk hw () rfl ((if_neg c_16).trans (if_neg c_17)).symm (Nat.le_of_ble_eq_true rfl) (Nat.le_of_ble_eq_true rfl) dX9_names_624
    · refine lv_iload_n hx hb dX9_names_618 rfl (lv_at hl 1 rfl) ?_
      refine lv_goto (tgt := 624) hx hb dX9_names_619 (by decide) ?_
      exact r_iret hC hr hlk hw () rfl ((if_neg c_16).trans (if_pos c_17)).symm (Nat.le_of_ble_eq_true rfl) (Nat.le_of_ble_eq_true rfl) dX9_names_624
  · refine lv_iload_n hx hb dX9_names_609 rfl (lv_at hl 2 rfl) ?_
    refine lv_goto (tgt := 624) hx hb dX9_names_610 (by decide) ?_
    exact r_iret hC hr hlk hw () rfl (if_pos c_16).symm (Nat.le_of_ble_eq_true rfl) (Nat.le_of_ble_eq_true rfl) dX9_names_624

set_option maxHeartbeats 4000000 in
set_option maxRecDepth 100000 in
theorem c_X9_names_45 (l : Launch) {D : va_G} {q : Nat → ClassId} (w : wT) (sz : Nat) (wh : Int32) : Met l yX9_names wsX9_names (rmz 1 22) (va_Pc [.int 45, .int wh] (rPre D q w sz)) (va_Qi (fun (r : Int32) (u : Unit) => r = if wh = 0 then 3 else if wh = 1 then 5 else 1) (fun (u : Unit) tt => rPo D (rA w sz) w tt) (rA w sz)) 0 0 (rA w sz) := by
  refine r_start (cc := cX9_names) (maxL := 6) (ret := (some .int)) (by decide) rfl (Nat.le_of_ble_eq_true rfl) ?_
  intro p e s m below meth c ls hC hr hlk hnm hsz hw hl
  have hx := hC.1
  have hb := hC.2.1
  have hl : lv_has ls 6 [(0, .int 45), (1, .int wh)] := hl
  refine lv_iconst (v := 0) hx hb dX9_names_0 (by decide) ?_
  refine lv_istore_n (lv' := [(2, .int 0), (0, .int 45), (1, .int wh)]) hx hb dX9_names_1 rfl hl (by decide) rfl (fun ls hl => ?_)
  refine lv_iconst (v := 0) hx hb dX9_names_2 (by decide) ?_
  refine lv_istore_n (lv' := [(3, .int 0), (2, .int 0), (0, .int 45), (1, .int wh)]) hx hb dX9_names_3 rfl hl (by decide) rfl (fun ls hl => ?_)
  refine lv_iconst (v := 0) hx hb dX9_names_4 (by decide) ?_
  refine lv_istore (lv' := [(4, .int 0), (3, .int 0), (2, .int 0), (0, .int 45), (1, .int wh)]) hx hb dX9_names_5 hl (by decide) rfl (fun ls hl => ?_)
  refine lv_iload_n hx hb dX9_names_7 rfl (lv_at hl 3 rfl) ?_
  refine lv_iconst (v := 1) hx hb dX9_names_8 (by decide) ?_
  refine lv_icmp_eq (tgt := 24) hx hb dX9_names_9 (by decide) (fun c_ => absurd c_ (by decide)) (fun _ => ?_)
  refine lv_iload_n hx hb dX9_names_12 rfl (lv_at hl 3 rfl) ?_
  refine lv_bipush (v := 72) hx hb dX9_names_13 (by decide) ?_
  refine lv_icmp_eq (tgt := 24) hx hb dX9_names_15 (by decide) (fun c_ => absurd c_ (by decide)) (fun _ => ?_)
  refine lv_iload_n hx hb dX9_names_18 rfl (lv_at hl 3 rfl) ?_
  refine lv_bipush (v := 73) hx hb dX9_names_19 (by decide) ?_
  refine lv_icmp_ne (tgt := 29) hx hb dX9_names_21 (by decide) (fun _ => ?_) (fun c_ => absurd c_ (by decide))
  refine lv_iload_n hx hb dX9_names_29 rfl (lv_at hl 3 rfl) ?_
  refine lv_iconst (v := 2) hx hb dX9_names_30 (by decide) ?_
  refine lv_icmp_ne (tgt := 39) hx hb dX9_names_31 (by decide) (fun _ => ?_) (fun c_ => absurd c_ (by decide))
  refine lv_iload_n hx hb dX9_names_39 rfl (lv_at hl 3 rfl) ?_
  refine lv_iconst (v := 3) hx hb dX9_names_40 (by decide) ?_
  refine lv_icmp_ne (tgt := 51) hx hb dX9_names_41 (by decide) (fun _ => ?_) (fun c_ => absurd c_ (by decide))
  refine lv_iload_n hx hb dX9_names_51 rfl (lv_at hl 3 rfl) ?_
  refine lv_iconst (v := 4) hx hb dX9_names_52 (by decide) ?_
  refine lv_bipush (v := 8) hx hb dX9_names_53 (by decide) ?_
  refine r_ki hw (r_runS (rest := []) hC hw (c_X9_isIn l _ _ 45 4 8) 3 gX9_names_X9_isIn rfl rfl rfl (by decide +kernel) ⟨Nat.le_of_ble_eq_true rfl, Nat.le_of_ble_eq_true rfl⟩ rfl hl.1 rfl (Nat.le_of_ble_eq_true rfl) dX9_names_55 ⟨Nat.le_of_ble_eq_true rfl, Nat.le_of_ble_eq_true rfl⟩) (fun r_2 u_3 H locs h_1 hw => ?_)
  rw [if_neg (by decide)] at h_1
  subst h_1
  refine lv_if_ne (tgt := 67) hx hb dX9_names_58 (by decide) (fun c_ => absurd (by decide) c_) (fun _ => ?_)
  refine lv_iload_n hx hb dX9_names_61 rfl (lv_at hl 3 rfl) ?_
  refine lv_bipush (v := 25) hx hb dX9_names_62 (by decide) ?_
  refine lv_icmp_ne (tgt := 77) hx hb dX9_names_64 (by decide) (fun _ => ?_) (fun c_ => absurd c_ (by decide))
  refine lv_iload_n hx hb dX9_names_77 rfl (lv_at hl 3 rfl) ?_
  refine lv_bipush (v := 9) hx hb dX9_names_78 (by decide) ?_
  refine lv_bipush (v := 12) hx hb dX9_names_80 (by decide) ?_
  refine r_ki hw (r_runS (rest := []) hC hw (c_X9_isIn l _ _ 45 9 12) 3 gX9_names_X9_isIn rfl rfl rfl (by decide +kernel) ⟨Nat.le_of_ble_eq_true rfl, Nat.le_of_ble_eq_true rfl⟩ rfl hl.1 rfl (Nat.le_of_ble_eq_true rfl) dX9_names_82 ⟨Nat.le_of_ble_eq_true rfl, Nat.le_of_ble_eq_true rfl⟩) (fun r_5 u_6 H locs h_4 hw => ?_)
  rw [if_neg (by decide)] at h_4
  subst h_4
  refine lv_if_eq (tgt := 98) hx hb dX9_names_85 (by decide) (fun _ => ?_) (fun c_ => absurd (by decide) c_)
  refine lv_iload_n hx hb dX9_names_98 rfl (lv_at hl 3 rfl) ?_
  refine lv_bipush (v := 13) hx hb dX9_names_99 (by decide) ?_
  refine lv_bipush (v := 24) hx hb dX9_names_101 (by decide) ?_
  refine r_ki hw (r_runS (rest := []) hC hw (c_X9_isIn l _ _ 45 13 24) 3 gX9_names_X9_isIn rfl rfl rfl (by decide +kernel) ⟨Nat.le_of_ble_eq_true rfl, Nat.le_of_ble_eq_true rfl⟩ rfl hl.1 rfl (Nat.le_of_ble_eq_true rfl) dX9_names_103 ⟨Nat.le_of_ble_eq_true rfl, Nat.le_of_ble_eq_true rfl⟩) (fun r_8 u_9 H locs h_7 hw => ?_)
  rw [if_neg (by decide)] at h_7
  subst h_7
  refine lv_if_ne (tgt := 115) hx hb dX9_names_106 (by decide) (fun c_ => absurd (by decide) c_) (fun _ => ?_)
  refine lv_iload_n hx hb dX9_names_109 rfl (lv_at hl 3 rfl) ?_
  refine lv_bipush (v := 26) hx hb dX9_names_110 (by decide) ?_
  refine lv_icmp_ne (tgt := 270) hx hb dX9_names_112 (by decide) (fun _ => ?_) (fun c_ => absurd c_ (by decide))
  refine lv_iload_n hx hb dX9_names_270 rfl (lv_at hl 3 rfl) ?_
  refine lv_bipush (v := 27) hx hb dX9_names_271 (by decide) ?_
  refine lv_icmp_eq (tgt := 282) hx hb dX9_names_273 (by decide) (fun c_ => absurd c_ (by decide)) (fun _ => ?_)
  refine lv_iload_n hx hb dX9_names_276 rfl (lv_at hl 3 rfl) ?_
  refine lv_bipush (v := 29) hx hb dX9_names_277 (by decide) ?_
  refine lv_icmp_ne (tgt := 288) hx hb dX9_names_279 (by decide) (fun _ => ?_) (fun c_ => absurd c_ (by decide))
  refine lv_iload_n hx hb dX9_names_288 rfl (lv_at hl 3 rfl) ?_
  refine lv_bipush (v := 28) hx hb dX9_names_289 (by decide) ?_
  refine lv_icmp_ne (tgt := 302) hx hb dX9_names_291 (by decide) (fun _ => ?_) (fun c_ => absurd c_ (by decide))
  refine lv_iload_n hx hb dX9_names_302 rfl (lv_at hl 3 rfl) ?_
  refine lv_bipush (v := 31) hx hb dX9_names_303 (by decide) ?_
  refine lv_bipush (v := 38) hx hb dX9_names_305 (by decide) ?_
  refine r_ki hw (r_runS (rest := []) hC hw (c_X9_isIn l _ _ 45 31 38) 3 gX9_names_X9_isIn rfl rfl rfl (by decide +kernel) ⟨Nat.le_of_ble_eq_true rfl, Nat.le_of_ble_eq_true rfl⟩ rfl hl.1 rfl (Nat.le_of_ble_eq_true rfl) dX9_names_307 ⟨Nat.le_of_ble_eq_true rfl, Nat.le_of_ble_eq_true rfl⟩) (fun r_11 u_12 H locs h_10 hw => ?_)
  rw [if_neg (by decide)] at h_10
  subst h_10
  refine lv_if_eq (tgt := 411) hx hb dX9_names_310 (by decide) (fun _ => ?_) (fun c_ => absurd (by decide) c_)
  refine lv_iload_n hx hb dX9_names_411 rfl (lv_at hl 3 rfl) ?_
  refine lv_bipush (v := 39) hx hb dX9_names_412 (by decide) ?_
  refine lv_bipush (v := 58) hx hb dX9_names_414 (by decide) ?_
  refine r_ki hw (r_runS (rest := []) hC hw (c_X9_isIn l _ _ 45 39 58) 3 gX9_names_X9_isIn rfl rfl rfl (by decide +kernel) ⟨Nat.le_of_ble_eq_true rfl, Nat.le_of_ble_eq_true rfl⟩ rfl hl.1 rfl (Nat.le_of_ble_eq_true rfl) dX9_names_416 ⟨Nat.le_of_ble_eq_true rfl, Nat.le_of_ble_eq_true rfl⟩) (fun r_14 u_15 H locs h_13 hw => ?_)
  rw [if_pos (by decide)] at h_13
  subst h_13
  refine lv_if_eq (tgt := 483) hx hb dX9_names_419 (by decide) (fun c_ => absurd c_ (by decide)) (fun _ => ?_)
  refine lv_iload_n hx hb dX9_names_422 rfl (lv_at hl 3 rfl) ?_
  refine lv_bipush (v := 39) hx hb dX9_names_423 (by decide) ?_
  refine lv_isub hx hb dX9_names_425 ?_
  refine r_topi (x := 45 - 39) (y := 6) (by decide) ?_
  refine lv_bipush (v := 10) hx hb dX9_names_426 (by decide) ?_
  refine lv_irem hx hb dX9_names_428 (by decide) ?_
  refine r_topi (x := 6 - 6 / 10 * 10) (y := 6) (by decide) ?_
  refine lv_istore (lv' := [(5, .int 6), (4, .int 0), (3, .int 0), (2, .int 0), (0, .int 45), (1, .int wh)]) hx hb dX9_names_429 hl (by decide) rfl (fun ls hl => ?_)
  refine lv_iload hx hb dX9_names_431 (lv_at hl 0 rfl) ?_
  refine lv_iconst (v := 5) hx hb dX9_names_433 (by decide) ?_
  refine lv_icmp_ge (tgt := 441) hx hb dX9_names_434 (by decide) (fun _ => ?_) (fun c_ => absurd (by decide) c_)
  refine lv_iload hx hb dX9_names_441 (lv_at hl 0 rfl) ?_
  refine lv_iconst (v := 5) hx hb dX9_names_443 (by decide) ?_
  refine lv_icmp_ne (tgt := 451) hx hb dX9_names_444 (by decide) (fun _ => ?_) (fun c_ => absurd c_ (by decide))
  refine lv_iload hx hb dX9_names_451 (lv_at hl 0 rfl) ?_
  refine lv_bipush (v := 6) hx hb dX9_names_453 (by decide) ?_
  refine lv_icmp_ne (tgt := 462) hx hb dX9_names_455 (by decide) (fun c_ => absurd (by decide) c_) (fun _ => ?_)
  refine lv_iconst (v := 3) hx hb dX9_names_458 (by decide) ?_
  refine lv_goto (tgt := 474) hx hb dX9_names_459 (by decide) ?_
  refine lv_istore_n (lv' := [(2, .int 3), (5, .int 6), (4, .int 0), (3, .int 0), (0, .int 45), (1, .int wh)]) hx hb dX9_names_474 rfl hl (by decide) rfl (fun ls hl => ?_)
  refine lv_iconst (v := 5) hx hb dX9_names_475 (by decide) ?_
  refine lv_istore_n (lv' := [(3, .int 5), (2, .int 3), (5, .int 6), (4, .int 0), (0, .int 45), (1, .int wh)]) hx hb dX9_names_476 rfl hl (by decide) rfl (fun ls hl => ?_)
  refine lv_iconst (v := 1) hx hb dX9_names_477 (by decide) ?_
  refine lv_istore (lv' := [(4, .int 1), (3, .int 5), (2, .int 3), (5, .int 6), (0, .int 45), (1, .int wh)]) hx hb dX9_names_478 hl (by decide) rfl (fun ls hl => ?_)
  refine lv_goto (tgt := 605) hx hb dX9_names_480 (by decide) ?_
  refine lv_iload_n hx hb dX9_names_605 rfl (lv_at hl 5 rfl) ?_
  refine lv_if_ne (tgt := 613) hx hb dX9_names_606 (by decide) (fun c_16 => ?_) (fun c_16 => ?_)
  · refine lv_iload_n hx hb dX9_names_613 rfl (lv_at hl 5 rfl) ?_
    refine lv_iconst (v := 1) hx hb dX9_names_614 (by decide) ?_
    refine lv_icmp_ne (tgt := 622) hx hb dX9_names_615 (by decide) (fun c_17 => ?_) (fun c_17 => ?_)
    · refine lv_iload hx hb dX9_names_622 (lv_at hl 0 rfl) ?_
      exact r_iret hC hr hlk hw () rfl ((if_neg c_16).trans (if_neg c_17)).symm (Nat.le_of_ble_eq_true rfl) (Nat.le_of_ble_eq_true rfl) dX9_names_624
    · refine lv_iload_n hx hb dX9_names_618 rfl (lv_at hl 1 rfl) ?_
      refine lv_goto (tgt := 624) hx hb dX9_names_619 (by decide) ?_
      exact r_iret hC hr hlk hw () rfl ((if_neg c_16).trans (if_pos c_17)).symm (Nat.le_of_ble_eq_true rfl) (Nat.le_of_ble_eq_true rfl) dX9_names_624
  · refine lv_iload_n hx hb dX9_names_609 rfl (lv_at hl 2 rfl) ?_
    refine lv_goto (tgt := 624) hx hb dX9_names_610 (by decide) ?_
    exact r_iret hC hr hlk hw () rfl (if_pos c_16).symm (Nat.le_of_ble_eq_true rfl) (Nat.le_of_ble_eq_true rfl) dX9_names_624

set_option maxHeartbeats 4000000 in
set_option maxRecDepth 100000 in
theorem c_X9_names_46 (l : Launch) {D : va_G} {q : Nat → ClassId} (w : wT) (sz : Nat) (wh : Int32) : Met l yX9_names wsX9_names (rmz 1 22) (va_Pc [.int 46, .int wh] (rPre D q w sz)) (va_Qi (fun (r : Int32) (u : Unit) => r = if wh = 0 then 4 else if wh = 1 then 5 else 1) (fun (u : Unit) tt => rPo D (rA w sz) w tt) (rA w sz)) 0 0 (rA w sz) := by
  refine r_start (cc := cX9_names) (maxL := 6) (ret := (some .int)) (by decide) rfl (Nat.le_of_ble_eq_true rfl) ?_
  intro p e s m below meth c ls hC hr hlk hnm hsz hw hl
  have hx := hC.1
  have hb := hC.2.1
  have hl : lv_has ls 6 [(0, .int 46), (1, .int wh)] := hl
  refine lv_iconst (v := 0) hx hb dX9_names_0 (by decide) ?_
  refine lv_istore_n (lv' := [(2, .int 0), (0, .int 46), (1, .int wh)]) hx hb dX9_names_1 rfl hl (by decide) rfl (fun ls hl => ?_)
  refine lv_iconst (v := 0) hx hb dX9_names_2 (by decide) ?_
  refine lv_istore_n (lv' := [(3, .int 0), (2, .int 0), (0, .int 46), (1, .int wh)]) hx hb dX9_names_3 rfl hl (by decide) rfl (fun ls hl => ?_)
  refine lv_iconst (v := 0) hx hb dX9_names_4 (by decide) ?_
  refine lv_istore (lv' := [(4, .int 0), (3, .int 0), (2, .int 0), (0, .int 46), (1, .int wh)]) hx hb dX9_names_5 hl (by decide) rfl (fun ls hl => ?_)
  refine lv_iload_n hx hb dX9_names_7 rfl (lv_at hl 3 rfl) ?_
  refine lv_iconst (v := 1) hx hb dX9_names_8 (by decide) ?_
  refine lv_icmp_eq (tgt := 24) hx hb dX9_names_9 (by decide) (fun c_ => absurd c_ (by decide)) (fun _ => ?_)
  refine lv_iload_n hx hb dX9_names_12 rfl (lv_at hl 3 rfl) ?_
  refine lv_bipush (v := 72) hx hb dX9_names_13 (by decide) ?_
  refine lv_icmp_eq (tgt := 24) hx hb dX9_names_15 (by decide) (fun c_ => absurd c_ (by decide)) (fun _ => ?_)
  refine lv_iload_n hx hb dX9_names_18 rfl (lv_at hl 3 rfl) ?_
  refine lv_bipush (v := 73) hx hb dX9_names_19 (by decide) ?_
  refine lv_icmp_ne (tgt := 29) hx hb dX9_names_21 (by decide) (fun _ => ?_) (fun c_ => absurd c_ (by decide))
  refine lv_iload_n hx hb dX9_names_29 rfl (lv_at hl 3 rfl) ?_
  refine lv_iconst (v := 2) hx hb dX9_names_30 (by decide) ?_
  refine lv_icmp_ne (tgt := 39) hx hb dX9_names_31 (by decide) (fun _ => ?_) (fun c_ => absurd c_ (by decide))
  refine lv_iload_n hx hb dX9_names_39 rfl (lv_at hl 3 rfl) ?_
  refine lv_iconst (v := 3) hx hb dX9_names_40 (by decide) ?_
  refine lv_icmp_ne (tgt := 51) hx hb dX9_names_41 (by decide) (fun _ => ?_) (fun c_ => absurd c_ (by decide))
  refine lv_iload_n hx hb dX9_names_51 rfl (lv_at hl 3 rfl) ?_
  refine lv_iconst (v := 4) hx hb dX9_names_52 (by decide) ?_
  refine lv_bipush (v := 8) hx hb dX9_names_53 (by decide) ?_
  refine r_ki hw (r_runS (rest := []) hC hw (c_X9_isIn l _ _ 46 4 8) 3 gX9_names_X9_isIn rfl rfl rfl (by decide +kernel) ⟨Nat.le_of_ble_eq_true rfl, Nat.le_of_ble_eq_true rfl⟩ rfl hl.1 rfl (Nat.le_of_ble_eq_true rfl) dX9_names_55 ⟨Nat.le_of_ble_eq_true rfl, Nat.le_of_ble_eq_true rfl⟩) (fun r_2 u_3 H locs h_1 hw => ?_)
  rw [if_neg (by decide)] at h_1
  subst h_1
  refine lv_if_ne (tgt := 67) hx hb dX9_names_58 (by decide) (fun c_ => absurd (by decide) c_) (fun _ => ?_)
  refine lv_iload_n hx hb dX9_names_61 rfl (lv_at hl 3 rfl) ?_
  refine lv_bipush (v := 25) hx hb dX9_names_62 (by decide) ?_
  refine lv_icmp_ne (tgt := 77) hx hb dX9_names_64 (by decide) (fun _ => ?_) (fun c_ => absurd c_ (by decide))
  refine lv_iload_n hx hb dX9_names_77 rfl (lv_at hl 3 rfl) ?_
  refine lv_bipush (v := 9) hx hb dX9_names_78 (by decide) ?_
  refine lv_bipush (v := 12) hx hb dX9_names_80 (by decide) ?_
  refine r_ki hw (r_runS (rest := []) hC hw (c_X9_isIn l _ _ 46 9 12) 3 gX9_names_X9_isIn rfl rfl rfl (by decide +kernel) ⟨Nat.le_of_ble_eq_true rfl, Nat.le_of_ble_eq_true rfl⟩ rfl hl.1 rfl (Nat.le_of_ble_eq_true rfl) dX9_names_82 ⟨Nat.le_of_ble_eq_true rfl, Nat.le_of_ble_eq_true rfl⟩) (fun r_5 u_6 H locs h_4 hw => ?_)
  rw [if_neg (by decide)] at h_4
  subst h_4
  refine lv_if_eq (tgt := 98) hx hb dX9_names_85 (by decide) (fun _ => ?_) (fun c_ => absurd (by decide) c_)
  refine lv_iload_n hx hb dX9_names_98 rfl (lv_at hl 3 rfl) ?_
  refine lv_bipush (v := 13) hx hb dX9_names_99 (by decide) ?_
  refine lv_bipush (v := 24) hx hb dX9_names_101 (by decide) ?_
  refine r_ki hw (r_runS (rest := []) hC hw (c_X9_isIn l _ _ 46 13 24) 3 gX9_names_X9_isIn rfl rfl rfl (by decide +kernel) ⟨Nat.le_of_ble_eq_true rfl, Nat.le_of_ble_eq_true rfl⟩ rfl hl.1 rfl (Nat.le_of_ble_eq_true rfl) dX9_names_103 ⟨Nat.le_of_ble_eq_true rfl, Nat.le_of_ble_eq_true rfl⟩) (fun r_8 u_9 H locs h_7 hw => ?_)
  rw [if_neg (by decide)] at h_7
  subst h_7
  refine lv_if_ne (tgt := 115) hx hb dX9_names_106 (by decide) (fun c_ => absurd (by decide) c_) (fun _ => ?_)
  refine lv_iload_n hx hb dX9_names_109 rfl (lv_at hl 3 rfl) ?_
  refine lv_bipush (v := 26) hx hb dX9_names_110 (by decide) ?_
  refine lv_icmp_ne (tgt := 270) hx hb dX9_names_112 (by decide) (fun _ => ?_) (fun c_ => absurd c_ (by decide))
  refine lv_iload_n hx hb dX9_names_270 rfl (lv_at hl 3 rfl) ?_
  refine lv_bipush (v := 27) hx hb dX9_names_271 (by decide) ?_
  refine lv_icmp_eq (tgt := 282) hx hb dX9_names_273 (by decide) (fun c_ => absurd c_ (by decide)) (fun _ => ?_)
  refine lv_iload_n hx hb dX9_names_276 rfl (lv_at hl 3 rfl) ?_
  refine lv_bipush (v := 29) hx hb dX9_names_277 (by decide) ?_
  refine lv_icmp_ne (tgt := 288) hx hb dX9_names_279 (by decide) (fun _ => ?_) (fun c_ => absurd c_ (by decide))
  refine lv_iload_n hx hb dX9_names_288 rfl (lv_at hl 3 rfl) ?_
  refine lv_bipush (v := 28) hx hb dX9_names_289 (by decide) ?_
  refine lv_icmp_ne (tgt := 302) hx hb dX9_names_291 (by decide) (fun _ => ?_) (fun c_ => absurd c_ (by decide))
  refine lv_iload_n hx hb dX9_names_302 rfl (lv_at hl 3 rfl) ?_
  refine lv_bipush (v := 31) hx hb dX9_names_303 (by decide) ?_
  refine lv_bipush (v := 38) hx hb dX9_names_305 (by decide) ?_
  refine r_ki hw (r_runS (rest := []) hC hw (c_X9_isIn l _ _ 46 31 38) 3 gX9_names_X9_isIn rfl rfl rfl (by decide +kernel) ⟨Nat.le_of_ble_eq_true rfl, Nat.le_of_ble_eq_true rfl⟩ rfl hl.1 rfl (Nat.le_of_ble_eq_true rfl) dX9_names_307 ⟨Nat.le_of_ble_eq_true rfl, Nat.le_of_ble_eq_true rfl⟩) (fun r_11 u_12 H locs h_10 hw => ?_)
  rw [if_neg (by decide)] at h_10
  subst h_10
  refine lv_if_eq (tgt := 411) hx hb dX9_names_310 (by decide) (fun _ => ?_) (fun c_ => absurd (by decide) c_)
  refine lv_iload_n hx hb dX9_names_411 rfl (lv_at hl 3 rfl) ?_
  refine lv_bipush (v := 39) hx hb dX9_names_412 (by decide) ?_
  refine lv_bipush (v := 58) hx hb dX9_names_414 (by decide) ?_
  refine r_ki hw (r_runS (rest := []) hC hw (c_X9_isIn l _ _ 46 39 58) 3 gX9_names_X9_isIn rfl rfl rfl (by decide +kernel) ⟨Nat.le_of_ble_eq_true rfl, Nat.le_of_ble_eq_true rfl⟩ rfl hl.1 rfl (Nat.le_of_ble_eq_true rfl) dX9_names_416 ⟨Nat.le_of_ble_eq_true rfl, Nat.le_of_ble_eq_true rfl⟩) (fun r_14 u_15 H locs h_13 hw => ?_)
  rw [if_pos (by decide)] at h_13
  subst h_13
  refine lv_if_eq (tgt := 483) hx hb dX9_names_419 (by decide) (fun c_ => absurd c_ (by decide)) (fun _ => ?_)
  refine lv_iload_n hx hb dX9_names_422 rfl (lv_at hl 3 rfl) ?_
  refine lv_bipush (v := 39) hx hb dX9_names_423 (by decide) ?_
  refine lv_isub hx hb dX9_names_425 ?_
  refine r_topi (x := 46 - 39) (y := 7) (by decide) ?_
  refine lv_bipush (v := 10) hx hb dX9_names_426 (by decide) ?_
  refine lv_irem hx hb dX9_names_428 (by decide) ?_
  refine r_topi (x := 7 - 7 / 10 * 10) (y := 7) (by decide) ?_
  refine lv_istore (lv' := [(5, .int 7), (4, .int 0), (3, .int 0), (2, .int 0), (0, .int 46), (1, .int wh)]) hx hb dX9_names_429 hl (by decide) rfl (fun ls hl => ?_)
  refine lv_iload hx hb dX9_names_431 (lv_at hl 0 rfl) ?_
  refine lv_iconst (v := 5) hx hb dX9_names_433 (by decide) ?_
  refine lv_icmp_ge (tgt := 441) hx hb dX9_names_434 (by decide) (fun _ => ?_) (fun c_ => absurd (by decide) c_)
  refine lv_iload hx hb dX9_names_441 (lv_at hl 0 rfl) ?_
  refine lv_iconst (v := 5) hx hb dX9_names_443 (by decide) ?_
  refine lv_icmp_ne (tgt := 451) hx hb dX9_names_444 (by decide) (fun _ => ?_) (fun c_ => absurd c_ (by decide))
  refine lv_iload hx hb dX9_names_451 (lv_at hl 0 rfl) ?_
  refine lv_bipush (v := 6) hx hb dX9_names_453 (by decide) ?_
  refine lv_icmp_ne (tgt := 462) hx hb dX9_names_455 (by decide) (fun _ => ?_) (fun c_ => absurd c_ (by decide))
  refine lv_iload hx hb dX9_names_462 (lv_at hl 0 rfl) ?_
  refine lv_bipush (v := 7) hx hb dX9_names_464 (by decide) ?_
  refine lv_icmp_ne (tgt := 473) hx hb dX9_names_466 (by decide) (fun c_ => absurd (by decide) c_) (fun _ => ?_)
  refine lv_iconst (v := 4) hx hb dX9_names_469 (by decide) ?_
  refine lv_goto (tgt := 474) hx hb dX9_names_470 (by decide) ?_
  refine lv_istore_n (lv' := [(2, .int 4), (5, .int 7), (4, .int 0), (3, .int 0), (0, .int 46), (1, .int wh)]) hx hb dX9_names_474 rfl hl (by decide) rfl (fun ls hl => ?_)
  refine lv_iconst (v := 5) hx hb dX9_names_475 (by decide) ?_
  refine lv_istore_n (lv' := [(3, .int 5), (2, .int 4), (5, .int 7), (4, .int 0), (0, .int 46), (1, .int wh)]) hx hb dX9_names_476 rfl hl (by decide) rfl (fun ls hl => ?_)
  refine lv_iconst (v := 1) hx hb dX9_names_477 (by decide) ?_
  refine lv_istore (lv' := [(4, .int 1), (3, .int 5), (2, .int 4), (5, .int 7), (0, .int 46), (1, .int wh)]) hx hb dX9_names_478 hl (by decide) rfl (fun ls hl => ?_)
  refine lv_goto (tgt := 605) hx hb dX9_names_480 (by decide) ?_
  refine lv_iload_n hx hb dX9_names_605 rfl (lv_at hl 5 rfl) ?_
  refine lv_if_ne (tgt := 613) hx hb dX9_names_606 (by decide) (fun c_16 => ?_) (fun c_16 => ?_)
  · refine lv_iload_n hx hb dX9_names_613 rfl (lv_at hl 5 rfl) ?_
    refine lv_iconst (v := 1) hx hb dX9_names_614 (by decide) ?_
    refine lv_icmp_ne (tgt := 622) hx hb dX9_names_615 (by decide) (fun c_17 => ?_) (fun c_17 => ?_)
    · refine lv_iload hx hb dX9_names_622 (lv_at hl 0 rfl) ?_
      exact r_iret hC hr hlk hw () rfl ((if_neg c_16).trans (if_neg c_17)).symm (Nat.le_of_ble_eq_true rfl) (Nat.le_of_ble_eq_true rfl) dX9_names_624
    · refine lv_iload_n hx hb dX9_names_618 rfl (lv_at hl 1 rfl) ?_
      refine lv_goto (tgt := 624) hx hb dX9_names_619 (by decide) ?_
      exact r_iret hC hr hlk hw () rfl ((if_neg c_16).trans (if_pos c_17)).symm (Nat.le_of_ble_eq_true rfl) (Nat.le_of_ble_eq_true rfl) dX9_names_624
  · refine lv_iload_n hx hb dX9_names_609 rfl (lv_at hl 2 rfl) ?_
    refine lv_goto (tgt := 624) hx hb dX9_names_610 (by decide) ?_
    exact r_iret hC hr hlk hw () rfl (if_pos c_16).symm (Nat.le_of_ble_eq_true rfl) (Nat.le_of_ble_eq_true rfl) dX9_names_624

set_option maxHeartbeats 4000000 in
set_option maxRecDepth 100000 in
theorem c_X9_names_47 (l : Launch) {D : va_G} {q : Nat → ClassId} (w : wT) (sz : Nat) (wh : Int32) : Met l yX9_names wsX9_names (rmz 1 22) (va_Pc [.int 47, .int wh] (rPre D q w sz)) (va_Qi (fun (r : Int32) (u : Unit) => r = if wh = 0 then 5 else if wh = 1 then 5 else 1) (fun (u : Unit) tt => rPo D (rA w sz) w tt) (rA w sz)) 0 0 (rA w sz) := by
  refine r_start (cc := cX9_names) (maxL := 6) (ret := (some .int)) (by decide) rfl (Nat.le_of_ble_eq_true rfl) ?_
  intro p e s m below meth c ls hC hr hlk hnm hsz hw hl
  have hx := hC.1
  have hb := hC.2.1
  have hl : lv_has ls 6 [(0, .int 47), (1, .int wh)] := hl
  refine lv_iconst (v := 0) hx hb dX9_names_0 (by decide) ?_
  refine lv_istore_n (lv' := [(2, .int 0), (0, .int 47), (1, .int wh)]) hx hb dX9_names_1 rfl hl (by decide) rfl (fun ls hl => ?_)
  refine lv_iconst (v := 0) hx hb dX9_names_2 (by decide) ?_
  refine lv_istore_n (lv' := [(3, .int 0), (2, .int 0), (0, .int 47), (1, .int wh)]) hx hb dX9_names_3 rfl hl (by decide) rfl (fun ls hl => ?_)
  refine lv_iconst (v := 0) hx hb dX9_names_4 (by decide) ?_
  refine lv_istore (lv' := [(4, .int 0), (3, .int 0), (2, .int 0), (0, .int 47), (1, .int wh)]) hx hb dX9_names_5 hl (by decide) rfl (fun ls hl => ?_)
  refine lv_iload_n hx hb dX9_names_7 rfl (lv_at hl 3 rfl) ?_
  refine lv_iconst (v := 1) hx hb dX9_names_8 (by decide) ?_
  refine lv_icmp_eq (tgt := 24) hx hb dX9_names_9 (by decide) (fun c_ => absurd c_ (by decide)) (fun _ => ?_)
  refine lv_iload_n hx hb dX9_names_12 rfl (lv_at hl 3 rfl) ?_
  refine lv_bipush (v := 72) hx hb dX9_names_13 (by decide) ?_
  refine lv_icmp_eq (tgt := 24) hx hb dX9_names_15 (by decide) (fun c_ => absurd c_ (by decide)) (fun _ => ?_)
  refine lv_iload_n hx hb dX9_names_18 rfl (lv_at hl 3 rfl) ?_
  refine lv_bipush (v := 73) hx hb dX9_names_19 (by decide) ?_
  refine lv_icmp_ne (tgt := 29) hx hb dX9_names_21 (by decide) (fun _ => ?_) (fun c_ => absurd c_ (by decide))
  refine lv_iload_n hx hb dX9_names_29 rfl (lv_at hl 3 rfl) ?_
  refine lv_iconst (v := 2) hx hb dX9_names_30 (by decide) ?_
  refine lv_icmp_ne (tgt := 39) hx hb dX9_names_31 (by decide) (fun _ => ?_) (fun c_ => absurd c_ (by decide))
  refine lv_iload_n hx hb dX9_names_39 rfl (lv_at hl 3 rfl) ?_
  refine lv_iconst (v := 3) hx hb dX9_names_40 (by decide) ?_
  refine lv_icmp_ne (tgt := 51) hx hb dX9_names_41 (by decide) (fun _ => ?_) (fun c_ => absurd c_ (by decide))
  refine lv_iload_n hx hb dX9_names_51 rfl (lv_at hl 3 rfl) ?_
  refine lv_iconst (v := 4) hx hb dX9_names_52 (by decide) ?_
  refine lv_bipush (v := 8) hx hb dX9_names_53 (by decide) ?_
  refine r_ki hw (r_runS (rest := []) hC hw (c_X9_isIn l _ _ 47 4 8) 3 gX9_names_X9_isIn rfl rfl rfl (by decide +kernel) ⟨Nat.le_of_ble_eq_true rfl, Nat.le_of_ble_eq_true rfl⟩ rfl hl.1 rfl (Nat.le_of_ble_eq_true rfl) dX9_names_55 ⟨Nat.le_of_ble_eq_true rfl, Nat.le_of_ble_eq_true rfl⟩) (fun r_2 u_3 H locs h_1 hw => ?_)
  rw [if_neg (by decide)] at h_1
  subst h_1
  refine lv_if_ne (tgt := 67) hx hb dX9_names_58 (by decide) (fun c_ => absurd (by decide) c_) (fun _ => ?_)
  refine lv_iload_n hx hb dX9_names_61 rfl (lv_at hl 3 rfl) ?_
  refine lv_bipush (v := 25) hx hb dX9_names_62 (by decide) ?_
  refine lv_icmp_ne (tgt := 77) hx hb dX9_names_64 (by decide) (fun _ => ?_) (fun c_ => absurd c_ (by decide))
  refine lv_iload_n hx hb dX9_names_77 rfl (lv_at hl 3 rfl) ?_
  refine lv_bipush (v := 9) hx hb dX9_names_78 (by decide) ?_
  refine lv_bipush (v := 12) hx hb dX9_names_80 (by decide) ?_
  refine r_ki hw (r_runS (rest := []) hC hw (c_X9_isIn l _ _ 47 9 12) 3 gX9_names_X9_isIn rfl rfl rfl (by decide +kernel) ⟨Nat.le_of_ble_eq_true rfl, Nat.le_of_ble_eq_true rfl⟩ rfl hl.1 rfl (Nat.le_of_ble_eq_true rfl) dX9_names_82 ⟨Nat.le_of_ble_eq_true rfl, Nat.le_of_ble_eq_true rfl⟩) (fun r_5 u_6 H locs h_4 hw => ?_)
  rw [if_neg (by decide)] at h_4
  subst h_4
  refine lv_if_eq (tgt := 98) hx hb dX9_names_85 (by decide) (fun _ => ?_) (fun c_ => absurd (by decide) c_)
  refine lv_iload_n hx hb dX9_names_98 rfl (lv_at hl 3 rfl) ?_
  refine lv_bipush (v := 13) hx hb dX9_names_99 (by decide) ?_
  refine lv_bipush (v := 24) hx hb dX9_names_101 (by decide) ?_
  refine r_ki hw (r_runS (rest := []) hC hw (c_X9_isIn l _ _ 47 13 24) 3 gX9_names_X9_isIn rfl rfl rfl (by decide +kernel) ⟨Nat.le_of_ble_eq_true rfl, Nat.le_of_ble_eq_true rfl⟩ rfl hl.1 rfl (Nat.le_of_ble_eq_true rfl) dX9_names_103 ⟨Nat.le_of_ble_eq_true rfl, Nat.le_of_ble_eq_true rfl⟩) (fun r_8 u_9 H locs h_7 hw => ?_)
  rw [if_neg (by decide)] at h_7
  subst h_7
  refine lv_if_ne (tgt := 115) hx hb dX9_names_106 (by decide) (fun c_ => absurd (by decide) c_) (fun _ => ?_)
  refine lv_iload_n hx hb dX9_names_109 rfl (lv_at hl 3 rfl) ?_
  refine lv_bipush (v := 26) hx hb dX9_names_110 (by decide) ?_
  refine lv_icmp_ne (tgt := 270) hx hb dX9_names_112 (by decide) (fun _ => ?_) (fun c_ => absurd c_ (by decide))
  refine lv_iload_n hx hb dX9_names_270 rfl (lv_at hl 3 rfl) ?_
  refine lv_bipush (v := 27) hx hb dX9_names_271 (by decide) ?_
  refine lv_icmp_eq (tgt := 282) hx hb dX9_names_273 (by decide) (fun c_ => absurd c_ (by decide)) (fun _ => ?_)
  refine lv_iload_n hx hb dX9_names_276 rfl (lv_at hl 3 rfl) ?_
  refine lv_bipush (v := 29) hx hb dX9_names_277 (by decide) ?_
  refine lv_icmp_ne (tgt := 288) hx hb dX9_names_279 (by decide) (fun _ => ?_) (fun c_ => absurd c_ (by decide))
  refine lv_iload_n hx hb dX9_names_288 rfl (lv_at hl 3 rfl) ?_
  refine lv_bipush (v := 28) hx hb dX9_names_289 (by decide) ?_
  refine lv_icmp_ne (tgt := 302) hx hb dX9_names_291 (by decide) (fun _ => ?_) (fun c_ => absurd c_ (by decide))
  refine lv_iload_n hx hb dX9_names_302 rfl (lv_at hl 3 rfl) ?_
  refine lv_bipush (v := 31) hx hb dX9_names_303 (by decide) ?_
  refine lv_bipush (v := 38) hx hb dX9_names_305 (by decide) ?_
  refine r_ki hw (r_runS (rest := []) hC hw (c_X9_isIn l _ _ 47 31 38) 3 gX9_names_X9_isIn rfl rfl rfl (by decide +kernel) ⟨Nat.le_of_ble_eq_true rfl, Nat.le_of_ble_eq_true rfl⟩ rfl hl.1 rfl (Nat.le_of_ble_eq_true rfl) dX9_names_307 ⟨Nat.le_of_ble_eq_true rfl, Nat.le_of_ble_eq_true rfl⟩) (fun r_11 u_12 H locs h_10 hw => ?_)
  rw [if_neg (by decide)] at h_10
  subst h_10
  refine lv_if_eq (tgt := 411) hx hb dX9_names_310 (by decide) (fun _ => ?_) (fun c_ => absurd (by decide) c_)
  refine lv_iload_n hx hb dX9_names_411 rfl (lv_at hl 3 rfl) ?_
  refine lv_bipush (v := 39) hx hb dX9_names_412 (by decide) ?_
  refine lv_bipush (v := 58) hx hb dX9_names_414 (by decide) ?_
  refine r_ki hw (r_runS (rest := []) hC hw (c_X9_isIn l _ _ 47 39 58) 3 gX9_names_X9_isIn rfl rfl rfl (by decide +kernel) ⟨Nat.le_of_ble_eq_true rfl, Nat.le_of_ble_eq_true rfl⟩ rfl hl.1 rfl (Nat.le_of_ble_eq_true rfl) dX9_names_416 ⟨Nat.le_of_ble_eq_true rfl, Nat.le_of_ble_eq_true rfl⟩) (fun r_14 u_15 H locs h_13 hw => ?_)
  rw [if_pos (by decide)] at h_13
  subst h_13
  refine lv_if_eq (tgt := 483) hx hb dX9_names_419 (by decide) (fun c_ => absurd c_ (by decide)) (fun _ => ?_)
  refine lv_iload_n hx hb dX9_names_422 rfl (lv_at hl 3 rfl) ?_
  refine lv_bipush (v := 39) hx hb dX9_names_423 (by decide) ?_
  refine lv_isub hx hb dX9_names_425 ?_
  refine r_topi (x := 47 - 39) (y := 8) (by decide) ?_
  refine lv_bipush (v := 10) hx hb dX9_names_426 (by decide) ?_
  refine lv_irem hx hb dX9_names_428 (by decide) ?_
  refine r_topi (x := 8 - 8 / 10 * 10) (y := 8) (by decide) ?_
  refine lv_istore (lv' := [(5, .int 8), (4, .int 0), (3, .int 0), (2, .int 0), (0, .int 47), (1, .int wh)]) hx hb dX9_names_429 hl (by decide) rfl (fun ls hl => ?_)
  refine lv_iload hx hb dX9_names_431 (lv_at hl 0 rfl) ?_
  refine lv_iconst (v := 5) hx hb dX9_names_433 (by decide) ?_
  refine lv_icmp_ge (tgt := 441) hx hb dX9_names_434 (by decide) (fun _ => ?_) (fun c_ => absurd (by decide) c_)
  refine lv_iload hx hb dX9_names_441 (lv_at hl 0 rfl) ?_
  refine lv_iconst (v := 5) hx hb dX9_names_443 (by decide) ?_
  refine lv_icmp_ne (tgt := 451) hx hb dX9_names_444 (by decide) (fun _ => ?_) (fun c_ => absurd c_ (by decide))
  refine lv_iload hx hb dX9_names_451 (lv_at hl 0 rfl) ?_
  refine lv_bipush (v := 6) hx hb dX9_names_453 (by decide) ?_
  refine lv_icmp_ne (tgt := 462) hx hb dX9_names_455 (by decide) (fun _ => ?_) (fun c_ => absurd c_ (by decide))
  refine lv_iload hx hb dX9_names_462 (lv_at hl 0 rfl) ?_
  refine lv_bipush (v := 7) hx hb dX9_names_464 (by decide) ?_
  refine lv_icmp_ne (tgt := 473) hx hb dX9_names_466 (by decide) (fun _ => ?_) (fun c_ => absurd c_ (by decide))
  refine lv_iconst (v := 5) hx hb dX9_names_473 (by decide) ?_
  refine lv_istore_n (lv' := [(2, .int 5), (5, .int 8), (4, .int 0), (3, .int 0), (0, .int 47), (1, .int wh)]) hx hb dX9_names_474 rfl hl (by decide) rfl (fun ls hl => ?_)
  refine lv_iconst (v := 5) hx hb dX9_names_475 (by decide) ?_
  refine lv_istore_n (lv' := [(3, .int 5), (2, .int 5), (5, .int 8), (4, .int 0), (0, .int 47), (1, .int wh)]) hx hb dX9_names_476 rfl hl (by decide) rfl (fun ls hl => ?_)
  refine lv_iconst (v := 1) hx hb dX9_names_477 (by decide) ?_
  refine lv_istore (lv' := [(4, .int 1), (3, .int 5), (2, .int 5), (5, .int 8), (0, .int 47), (1, .int wh)]) hx hb dX9_names_478 hl (by decide) rfl (fun ls hl => ?_)
  refine lv_goto (tgt := 605) hx hb dX9_names_480 (by decide) ?_
  refine lv_iload_n hx hb dX9_names_605 rfl (lv_at hl 5 rfl) ?_
  refine lv_if_ne (tgt := 613) hx hb dX9_names_606 (by decide) (fun c_16 => ?_) (fun c_16 => ?_)
  · refine lv_iload_n hx hb dX9_names_613 rfl (lv_at hl 5 rfl) ?_
    refine lv_iconst (v := 1) hx hb dX9_names_614 (by decide) ?_
    refine lv_icmp_ne (tgt := 622) hx hb dX9_names_615 (by decide) (fun c_17 => ?_) (fun c_17 => ?_)
    · refine lv_iload hx hb dX9_names_622 (lv_at hl 0 rfl) ?_
      exact r_iret hC hr hlk hw () rfl ((if_neg c_16).trans (if_neg c_17)).symm (Nat.le_of_ble_eq_true rfl) (Nat.le_of_ble_eq_true rfl) dX9_names_624
    · refine lv_iload_n hx hb dX9_names_618 rfl (lv_at hl 1 rfl) ?_
      refine lv_goto (tgt := 624) hx hb dX9_names_619 (by decide) ?_
      exact r_iret hC hr hlk hw () rfl ((if_neg c_16).trans (if_pos c_17)).symm (Nat.le_of_ble_eq_true rfl) (Nat.le_of_ble_eq_true rfl) dX9_names_624
  · refine lv_iload_n hx hb dX9_names_609 rfl (lv_at hl 2 rfl) ?_
    refine lv_goto (tgt := 624) hx hb dX9_names_610 (by decide) ?_
    exact r_iret hC hr hlk hw () rfl (if_pos c_16).symm (Nat.le_of_ble_eq_true rfl) (Nat.le_of_ble_eq_true rfl) dX9_names_624

set_option maxHeartbeats 4000000 in
set_option maxRecDepth 100000 in
theorem c_X9_names_48 (l : Launch) {D : va_G} {q : Nat → ClassId} (w : wT) (sz : Nat) (wh : Int32) : Met l yX9_names wsX9_names (rmz 1 22) (va_Pc [.int 48, .int wh] (rPre D q w sz)) (va_Qi (fun (r : Int32) (u : Unit) => r = if wh = 0 then 5 else if wh = 1 then 5 else 1) (fun (u : Unit) tt => rPo D (rA w sz) w tt) (rA w sz)) 0 0 (rA w sz) := by
  refine r_start (cc := cX9_names) (maxL := 6) (ret := (some .int)) (by decide) rfl (Nat.le_of_ble_eq_true rfl) ?_
  intro p e s m below meth c ls hC hr hlk hnm hsz hw hl
  have hx := hC.1
  have hb := hC.2.1
  have hl : lv_has ls 6 [(0, .int 48), (1, .int wh)] := hl
  refine lv_iconst (v := 0) hx hb dX9_names_0 (by decide) ?_
  refine lv_istore_n (lv' := [(2, .int 0), (0, .int 48), (1, .int wh)]) hx hb dX9_names_1 rfl hl (by decide) rfl (fun ls hl => ?_)
  refine lv_iconst (v := 0) hx hb dX9_names_2 (by decide) ?_
  refine lv_istore_n (lv' := [(3, .int 0), (2, .int 0), (0, .int 48), (1, .int wh)]) hx hb dX9_names_3 rfl hl (by decide) rfl (fun ls hl => ?_)
  refine lv_iconst (v := 0) hx hb dX9_names_4 (by decide) ?_
  refine lv_istore (lv' := [(4, .int 0), (3, .int 0), (2, .int 0), (0, .int 48), (1, .int wh)]) hx hb dX9_names_5 hl (by decide) rfl (fun ls hl => ?_)
  refine lv_iload_n hx hb dX9_names_7 rfl (lv_at hl 3 rfl) ?_
  refine lv_iconst (v := 1) hx hb dX9_names_8 (by decide) ?_
  refine lv_icmp_eq (tgt := 24) hx hb dX9_names_9 (by decide) (fun c_ => absurd c_ (by decide)) (fun _ => ?_)
  refine lv_iload_n hx hb dX9_names_12 rfl (lv_at hl 3 rfl) ?_
  refine lv_bipush (v := 72) hx hb dX9_names_13 (by decide) ?_
  refine lv_icmp_eq (tgt := 24) hx hb dX9_names_15 (by decide) (fun c_ => absurd c_ (by decide)) (fun _ => ?_)
  refine lv_iload_n hx hb dX9_names_18 rfl (lv_at hl 3 rfl) ?_
  refine lv_bipush (v := 73) hx hb dX9_names_19 (by decide) ?_
  refine lv_icmp_ne (tgt := 29) hx hb dX9_names_21 (by decide) (fun _ => ?_) (fun c_ => absurd c_ (by decide))
  refine lv_iload_n hx hb dX9_names_29 rfl (lv_at hl 3 rfl) ?_
  refine lv_iconst (v := 2) hx hb dX9_names_30 (by decide) ?_
  refine lv_icmp_ne (tgt := 39) hx hb dX9_names_31 (by decide) (fun _ => ?_) (fun c_ => absurd c_ (by decide))
  refine lv_iload_n hx hb dX9_names_39 rfl (lv_at hl 3 rfl) ?_
  refine lv_iconst (v := 3) hx hb dX9_names_40 (by decide) ?_
  refine lv_icmp_ne (tgt := 51) hx hb dX9_names_41 (by decide) (fun _ => ?_) (fun c_ => absurd c_ (by decide))
  refine lv_iload_n hx hb dX9_names_51 rfl (lv_at hl 3 rfl) ?_
  refine lv_iconst (v := 4) hx hb dX9_names_52 (by decide) ?_
  refine lv_bipush (v := 8) hx hb dX9_names_53 (by decide) ?_
  refine r_ki hw (r_runS (rest := []) hC hw (c_X9_isIn l _ _ 48 4 8) 3 gX9_names_X9_isIn rfl rfl rfl (by decide +kernel) ⟨Nat.le_of_ble_eq_true rfl, Nat.le_of_ble_eq_true rfl⟩ rfl hl.1 rfl (Nat.le_of_ble_eq_true rfl) dX9_names_55 ⟨Nat.le_of_ble_eq_true rfl, Nat.le_of_ble_eq_true rfl⟩) (fun r_2 u_3 H locs h_1 hw => ?_)
  rw [if_neg (by decide)] at h_1
  subst h_1
  refine lv_if_ne (tgt := 67) hx hb dX9_names_58 (by decide) (fun c_ => absurd (by decide) c_) (fun _ => ?_)
  refine lv_iload_n hx hb dX9_names_61 rfl (lv_at hl 3 rfl) ?_
  refine lv_bipush (v := 25) hx hb dX9_names_62 (by decide) ?_
  refine lv_icmp_ne (tgt := 77) hx hb dX9_names_64 (by decide) (fun _ => ?_) (fun c_ => absurd c_ (by decide))
  refine lv_iload_n hx hb dX9_names_77 rfl (lv_at hl 3 rfl) ?_
  refine lv_bipush (v := 9) hx hb dX9_names_78 (by decide) ?_
  refine lv_bipush (v := 12) hx hb dX9_names_80 (by decide) ?_
  refine r_ki hw (r_runS (rest := []) hC hw (c_X9_isIn l _ _ 48 9 12) 3 gX9_names_X9_isIn rfl rfl rfl (by decide +kernel) ⟨Nat.le_of_ble_eq_true rfl, Nat.le_of_ble_eq_true rfl⟩ rfl hl.1 rfl (Nat.le_of_ble_eq_true rfl) dX9_names_82 ⟨Nat.le_of_ble_eq_true rfl, Nat.le_of_ble_eq_true rfl⟩) (fun r_5 u_6 H locs h_4 hw => ?_)
  rw [if_neg (by decide)] at h_4
  subst h_4
  refine lv_if_eq (tgt := 98) hx hb dX9_names_85 (by decide) (fun _ => ?_) (fun c_ => absurd (by decide) c_)
  refine lv_iload_n hx hb dX9_names_98 rfl (lv_at hl 3 rfl) ?_
  refine lv_bipush (v := 13) hx hb dX9_names_99 (by decide) ?_
  refine lv_bipush (v := 24) hx hb dX9_names_101 (by decide) ?_
  refine r_ki hw (r_runS (rest := []) hC hw (c_X9_isIn l _ _ 48 13 24) 3 gX9_names_X9_isIn rfl rfl rfl (by decide +kernel) ⟨Nat.le_of_ble_eq_true rfl, Nat.le_of_ble_eq_true rfl⟩ rfl hl.1 rfl (Nat.le_of_ble_eq_true rfl) dX9_names_103 ⟨Nat.le_of_ble_eq_true rfl, Nat.le_of_ble_eq_true rfl⟩) (fun r_8 u_9 H locs h_7 hw => ?_)
  rw [if_neg (by decide)] at h_7
  subst h_7
  refine lv_if_ne (tgt := 115) hx hb dX9_names_106 (by decide) (fun c_ => absurd (by decide) c_) (fun _ => ?_)
  refine lv_iload_n hx hb dX9_names_109 rfl (lv_at hl 3 rfl) ?_
  refine lv_bipush (v := 26) hx hb dX9_names_110 (by decide) ?_
  refine lv_icmp_ne (tgt := 270) hx hb dX9_names_112 (by decide) (fun _ => ?_) (fun c_ => absurd c_ (by decide))
  refine lv_iload_n hx hb dX9_names_270 rfl (lv_at hl 3 rfl) ?_
  refine lv_bipush (v := 27) hx hb dX9_names_271 (by decide) ?_
  refine lv_icmp_eq (tgt := 282) hx hb dX9_names_273 (by decide) (fun c_ => absurd c_ (by decide)) (fun _ => ?_)
  refine lv_iload_n hx hb dX9_names_276 rfl (lv_at hl 3 rfl) ?_
  refine lv_bipush (v := 29) hx hb dX9_names_277 (by decide) ?_
  refine lv_icmp_ne (tgt := 288) hx hb dX9_names_279 (by decide) (fun _ => ?_) (fun c_ => absurd c_ (by decide))
  refine lv_iload_n hx hb dX9_names_288 rfl (lv_at hl 3 rfl) ?_
  refine lv_bipush (v := 28) hx hb dX9_names_289 (by decide) ?_
  refine lv_icmp_ne (tgt := 302) hx hb dX9_names_291 (by decide) (fun _ => ?_) (fun c_ => absurd c_ (by decide))
  refine lv_iload_n hx hb dX9_names_302 rfl (lv_at hl 3 rfl) ?_
  refine lv_bipush (v := 31) hx hb dX9_names_303 (by decide) ?_
  refine lv_bipush (v := 38) hx hb dX9_names_305 (by decide) ?_
  refine r_ki hw (r_runS (rest := []) hC hw (c_X9_isIn l _ _ 48 31 38) 3 gX9_names_X9_isIn rfl rfl rfl (by decide +kernel) ⟨Nat.le_of_ble_eq_true rfl, Nat.le_of_ble_eq_true rfl⟩ rfl hl.1 rfl (Nat.le_of_ble_eq_true rfl) dX9_names_307 ⟨Nat.le_of_ble_eq_true rfl, Nat.le_of_ble_eq_true rfl⟩) (fun r_11 u_12 H locs h_10 hw => ?_)
  rw [if_neg (by decide)] at h_10
  subst h_10
  refine lv_if_eq (tgt := 411) hx hb dX9_names_310 (by decide) (fun _ => ?_) (fun c_ => absurd (by decide) c_)
  refine lv_iload_n hx hb dX9_names_411 rfl (lv_at hl 3 rfl) ?_
  refine lv_bipush (v := 39) hx hb dX9_names_412 (by decide) ?_
  refine lv_bipush (v := 58) hx hb dX9_names_414 (by decide) ?_
  refine r_ki hw (r_runS (rest := []) hC hw (c_X9_isIn l _ _ 48 39 58) 3 gX9_names_X9_isIn rfl rfl rfl (by decide +kernel) ⟨Nat.le_of_ble_eq_true rfl, Nat.le_of_ble_eq_true rfl⟩ rfl hl.1 rfl (Nat.le_of_ble_eq_true rfl) dX9_names_416 ⟨Nat.le_of_ble_eq_true rfl, Nat.le_of_ble_eq_true rfl⟩) (fun r_14 u_15 H locs h_13 hw => ?_)
  rw [if_pos (by decide)] at h_13
  subst h_13
  refine lv_if_eq (tgt := 483) hx hb dX9_names_419 (by decide) (fun c_ => absurd c_ (by decide)) (fun _ => ?_)
  refine lv_iload_n hx hb dX9_names_422 rfl (lv_at hl 3 rfl) ?_
  refine lv_bipush (v := 39) hx hb dX9_names_423 (by decide) ?_
  refine lv_isub hx hb dX9_names_425 ?_
  refine r_topi (x := 48 - 39) (y := 9) (by decide) ?_
  refine lv_bipush (v := 10) hx hb dX9_names_426 (by decide) ?_
  refine lv_irem hx hb dX9_names_428 (by decide) ?_
  refine r_topi (x := 9 - 9 / 10 * 10) (y := 9) (by decide) ?_
  refine lv_istore (lv' := [(5, .int 9), (4, .int 0), (3, .int 0), (2, .int 0), (0, .int 48), (1, .int wh)]) hx hb dX9_names_429 hl (by decide) rfl (fun ls hl => ?_)
  refine lv_iload hx hb dX9_names_431 (lv_at hl 0 rfl) ?_
  refine lv_iconst (v := 5) hx hb dX9_names_433 (by decide) ?_
  refine lv_icmp_ge (tgt := 441) hx hb dX9_names_434 (by decide) (fun _ => ?_) (fun c_ => absurd (by decide) c_)
  refine lv_iload hx hb dX9_names_441 (lv_at hl 0 rfl) ?_
  refine lv_iconst (v := 5) hx hb dX9_names_443 (by decide) ?_
  refine lv_icmp_ne (tgt := 451) hx hb dX9_names_444 (by decide) (fun _ => ?_) (fun c_ => absurd c_ (by decide))
  refine lv_iload hx hb dX9_names_451 (lv_at hl 0 rfl) ?_
  refine lv_bipush (v := 6) hx hb dX9_names_453 (by decide) ?_
  refine lv_icmp_ne (tgt := 462) hx hb dX9_names_455 (by decide) (fun _ => ?_) (fun c_ => absurd c_ (by decide))
  refine lv_iload hx hb dX9_names_462 (lv_at hl 0 rfl) ?_
  refine lv_bipush (v := 7) hx hb dX9_names_464 (by decide) ?_
  refine lv_icmp_ne (tgt := 473) hx hb dX9_names_466 (by decide) (fun _ => ?_) (fun c_ => absurd c_ (by decide))
  refine lv_iconst (v := 5) hx hb dX9_names_473 (by decide) ?_
  refine lv_istore_n (lv' := [(2, .int 5), (5, .int 9), (4, .int 0), (3, .int 0), (0, .int 48), (1, .int wh)]) hx hb dX9_names_474 rfl hl (by decide) rfl (fun ls hl => ?_)
  refine lv_iconst (v := 5) hx hb dX9_names_475 (by decide) ?_
  refine lv_istore_n (lv' := [(3, .int 5), (2, .int 5), (5, .int 9), (4, .int 0), (0, .int 48), (1, .int wh)]) hx hb dX9_names_476 rfl hl (by decide) rfl (fun ls hl => ?_)
  refine lv_iconst (v := 1) hx hb dX9_names_477 (by decide) ?_
  refine lv_istore (lv' := [(4, .int 1), (3, .int 5), (2, .int 5), (5, .int 9), (0, .int 48), (1, .int wh)]) hx hb dX9_names_478 hl (by decide) rfl (fun ls hl => ?_)
  refine lv_goto (tgt := 605) hx hb dX9_names_480 (by decide) ?_
  refine lv_iload_n hx hb dX9_names_605 rfl (lv_at hl 5 rfl) ?_
  refine lv_if_ne (tgt := 613) hx hb dX9_names_606 (by decide) (fun c_16 => ?_) (fun c_16 => ?_)
  · refine lv_iload_n hx hb dX9_names_613 rfl (lv_at hl 5 rfl) ?_
    refine lv_iconst (v := 1) hx hb dX9_names_614 (by decide) ?_
    refine lv_icmp_ne (tgt := 622) hx hb dX9_names_615 (by decide) (fun c_17 => ?_) (fun c_17 => ?_)
    · refine lv_iload hx hb dX9_names_622 (lv_at hl 0 rfl) ?_
      exact r_iret hC hr hlk hw () rfl ((if_neg c_16).trans (if_neg c_17)).symm (Nat.le_of_ble_eq_true rfl) (Nat.le_of_ble_eq_true rfl) dX9_names_624
    · refine lv_iload_n hx hb dX9_names_618 rfl (lv_at hl 1 rfl) ?_
      refine lv_goto (tgt := 624) hx hb dX9_names_619 (by decide) ?_
      exact r_iret hC hr hlk hw () rfl ((if_neg c_16).trans (if_pos c_17)).symm (Nat.le_of_ble_eq_true rfl) (Nat.le_of_ble_eq_true rfl) dX9_names_624
  · refine lv_iload_n hx hb dX9_names_609 rfl (lv_at hl 2 rfl) ?_
    refine lv_goto (tgt := 624) hx hb dX9_names_610 (by decide) ?_
    exact r_iret hC hr hlk hw () rfl (if_pos c_16).symm (Nat.le_of_ble_eq_true rfl) (Nat.le_of_ble_eq_true rfl) dX9_names_624

set_option maxHeartbeats 4000000 in
set_option maxRecDepth 100000 in
theorem c_X9_names_49 (l : Launch) {D : va_G} {q : Nat → ClassId} (w : wT) (sz : Nat) (wh : Int32) : Met l yX9_names wsX9_names (rmz 1 22) (va_Pc [.int 49, .int wh] (rPre D q w sz)) (va_Qi (fun (r : Int32) (u : Unit) => r = if wh = 0 then 1 else if wh = 1 then 5 else 1) (fun (u : Unit) tt => rPo D (rA w sz) w tt) (rA w sz)) 0 0 (rA w sz) := by
  refine r_start (cc := cX9_names) (maxL := 6) (ret := (some .int)) (by decide) rfl (Nat.le_of_ble_eq_true rfl) ?_
  intro p e s m below meth c ls hC hr hlk hnm hsz hw hl
  have hx := hC.1
  have hb := hC.2.1
  have hl : lv_has ls 6 [(0, .int 49), (1, .int wh)] := hl
  refine lv_iconst (v := 0) hx hb dX9_names_0 (by decide) ?_
  refine lv_istore_n (lv' := [(2, .int 0), (0, .int 49), (1, .int wh)]) hx hb dX9_names_1 rfl hl (by decide) rfl (fun ls hl => ?_)
  refine lv_iconst (v := 0) hx hb dX9_names_2 (by decide) ?_
  refine lv_istore_n (lv' := [(3, .int 0), (2, .int 0), (0, .int 49), (1, .int wh)]) hx hb dX9_names_3 rfl hl (by decide) rfl (fun ls hl => ?_)
  refine lv_iconst (v := 0) hx hb dX9_names_4 (by decide) ?_
  refine lv_istore (lv' := [(4, .int 0), (3, .int 0), (2, .int 0), (0, .int 49), (1, .int wh)]) hx hb dX9_names_5 hl (by decide) rfl (fun ls hl => ?_)
  refine lv_iload_n hx hb dX9_names_7 rfl (lv_at hl 3 rfl) ?_
  refine lv_iconst (v := 1) hx hb dX9_names_8 (by decide) ?_
  refine lv_icmp_eq (tgt := 24) hx hb dX9_names_9 (by decide) (fun c_ => absurd c_ (by decide)) (fun _ => ?_)
  refine lv_iload_n hx hb dX9_names_12 rfl (lv_at hl 3 rfl) ?_
  refine lv_bipush (v := 72) hx hb dX9_names_13 (by decide) ?_
  refine lv_icmp_eq (tgt := 24) hx hb dX9_names_15 (by decide) (fun c_ => absurd c_ (by decide)) (fun _ => ?_)
  refine lv_iload_n hx hb dX9_names_18 rfl (lv_at hl 3 rfl) ?_
  refine lv_bipush (v := 73) hx hb dX9_names_19 (by decide) ?_
  refine lv_icmp_ne (tgt := 29) hx hb dX9_names_21 (by decide) (fun _ => ?_) (fun c_ => absurd c_ (by decide))
  refine lv_iload_n hx hb dX9_names_29 rfl (lv_at hl 3 rfl) ?_
  refine lv_iconst (v := 2) hx hb dX9_names_30 (by decide) ?_
  refine lv_icmp_ne (tgt := 39) hx hb dX9_names_31 (by decide) (fun _ => ?_) (fun c_ => absurd c_ (by decide))
  refine lv_iload_n hx hb dX9_names_39 rfl (lv_at hl 3 rfl) ?_
  refine lv_iconst (v := 3) hx hb dX9_names_40 (by decide) ?_
  refine lv_icmp_ne (tgt := 51) hx hb dX9_names_41 (by decide) (fun _ => ?_) (fun c_ => absurd c_ (by decide))
  refine lv_iload_n hx hb dX9_names_51 rfl (lv_at hl 3 rfl) ?_
  refine lv_iconst (v := 4) hx hb dX9_names_52 (by decide) ?_
  refine lv_bipush (v := 8) hx hb dX9_names_53 (by decide) ?_
  refine r_ki hw (r_runS (rest := []) hC hw (c_X9_isIn l _ _ 49 4 8) 3 gX9_names_X9_isIn rfl rfl rfl (by decide +kernel) ⟨Nat.le_of_ble_eq_true rfl, Nat.le_of_ble_eq_true rfl⟩ rfl hl.1 rfl (Nat.le_of_ble_eq_true rfl) dX9_names_55 ⟨Nat.le_of_ble_eq_true rfl, Nat.le_of_ble_eq_true rfl⟩) (fun r_2 u_3 H locs h_1 hw => ?_)
  rw [if_neg (by decide)] at h_1
  subst h_1
  refine lv_if_ne (tgt := 67) hx hb dX9_names_58 (by decide) (fun c_ => absurd (by decide) c_) (fun _ => ?_)
  refine lv_iload_n hx hb dX9_names_61 rfl (lv_at hl 3 rfl) ?_
  refine lv_bipush (v := 25) hx hb dX9_names_62 (by decide) ?_
  refine lv_icmp_ne (tgt := 77) hx hb dX9_names_64 (by decide) (fun _ => ?_) (fun c_ => absurd c_ (by decide))
  refine lv_iload_n hx hb dX9_names_77 rfl (lv_at hl 3 rfl) ?_
  refine lv_bipush (v := 9) hx hb dX9_names_78 (by decide) ?_
  refine lv_bipush (v := 12) hx hb dX9_names_80 (by decide) ?_
  refine r_ki hw (r_runS (rest := []) hC hw (c_X9_isIn l _ _ 49 9 12) 3 gX9_names_X9_isIn rfl rfl rfl (by decide +kernel) ⟨Nat.le_of_ble_eq_true rfl, Nat.le_of_ble_eq_true rfl⟩ rfl hl.1 rfl (Nat.le_of_ble_eq_true rfl) dX9_names_82 ⟨Nat.le_of_ble_eq_true rfl, Nat.le_of_ble_eq_true rfl⟩) (fun r_5 u_6 H locs h_4 hw => ?_)
  rw [if_neg (by decide)] at h_4
  subst h_4
  refine lv_if_eq (tgt := 98) hx hb dX9_names_85 (by decide) (fun _ => ?_) (fun c_ => absurd (by decide) c_)
  refine lv_iload_n hx hb dX9_names_98 rfl (lv_at hl 3 rfl) ?_
  refine lv_bipush (v := 13) hx hb dX9_names_99 (by decide) ?_
  refine lv_bipush (v := 24) hx hb dX9_names_101 (by decide) ?_
  refine r_ki hw (r_runS (rest := []) hC hw (c_X9_isIn l _ _ 49 13 24) 3 gX9_names_X9_isIn rfl rfl rfl (by decide +kernel) ⟨Nat.le_of_ble_eq_true rfl, Nat.le_of_ble_eq_true rfl⟩ rfl hl.1 rfl (Nat.le_of_ble_eq_true rfl) dX9_names_103 ⟨Nat.le_of_ble_eq_true rfl, Nat.le_of_ble_eq_true rfl⟩) (fun r_8 u_9 H locs h_7 hw => ?_)
  rw [if_neg (by decide)] at h_7
  subst h_7
  refine lv_if_ne (tgt := 115) hx hb dX9_names_106 (by decide) (fun c_ => absurd (by decide) c_) (fun _ => ?_)
  refine lv_iload_n hx hb dX9_names_109 rfl (lv_at hl 3 rfl) ?_
  refine lv_bipush (v := 26) hx hb dX9_names_110 (by decide) ?_
  refine lv_icmp_ne (tgt := 270) hx hb dX9_names_112 (by decide) (fun _ => ?_) (fun c_ => absurd c_ (by decide))
  refine lv_iload_n hx hb dX9_names_270 rfl (lv_at hl 3 rfl) ?_
  refine lv_bipush (v := 27) hx hb dX9_names_271 (by decide) ?_
  refine lv_icmp_eq (tgt := 282) hx hb dX9_names_273 (by decide) (fun c_ => absurd c_ (by decide)) (fun _ => ?_)
  refine lv_iload_n hx hb dX9_names_276 rfl (lv_at hl 3 rfl) ?_
  refine lv_bipush (v := 29) hx hb dX9_names_277 (by decide) ?_
  refine lv_icmp_ne (tgt := 288) hx hb dX9_names_279 (by decide) (fun _ => ?_) (fun c_ => absurd c_ (by decide))
  refine lv_iload_n hx hb dX9_names_288 rfl (lv_at hl 3 rfl) ?_
  refine lv_bipush (v := 28) hx hb dX9_names_289 (by decide) ?_
  refine lv_icmp_ne (tgt := 302) hx hb dX9_names_291 (by decide) (fun _ => ?_) (fun c_ => absurd c_ (by decide))
  refine lv_iload_n hx hb dX9_names_302 rfl (lv_at hl 3 rfl) ?_
  refine lv_bipush (v := 31) hx hb dX9_names_303 (by decide) ?_
  refine lv_bipush (v := 38) hx hb dX9_names_305 (by decide) ?_
  refine r_ki hw (r_runS (rest := []) hC hw (c_X9_isIn l _ _ 49 31 38) 3 gX9_names_X9_isIn rfl rfl rfl (by decide +kernel) ⟨Nat.le_of_ble_eq_true rfl, Nat.le_of_ble_eq_true rfl⟩ rfl hl.1 rfl (Nat.le_of_ble_eq_true rfl) dX9_names_307 ⟨Nat.le_of_ble_eq_true rfl, Nat.le_of_ble_eq_true rfl⟩) (fun r_11 u_12 H locs h_10 hw => ?_)
  rw [if_neg (by decide)] at h_10
  subst h_10
  refine lv_if_eq (tgt := 411) hx hb dX9_names_310 (by decide) (fun _ => ?_) (fun c_ => absurd (by decide) c_)
  refine lv_iload_n hx hb dX9_names_411 rfl (lv_at hl 3 rfl) ?_
  refine lv_bipush (v := 39) hx hb dX9_names_412 (by decide) ?_
  refine lv_bipush (v := 58) hx hb dX9_names_414 (by decide) ?_
  refine r_ki hw (r_runS (rest := []) hC hw (c_X9_isIn l _ _ 49 39 58) 3 gX9_names_X9_isIn rfl rfl rfl (by decide +kernel) ⟨Nat.le_of_ble_eq_true rfl, Nat.le_of_ble_eq_true rfl⟩ rfl hl.1 rfl (Nat.le_of_ble_eq_true rfl) dX9_names_416 ⟨Nat.le_of_ble_eq_true rfl, Nat.le_of_ble_eq_true rfl⟩) (fun r_14 u_15 H locs h_13 hw => ?_)
  rw [if_pos (by decide)] at h_13
  subst h_13
  refine lv_if_eq (tgt := 483) hx hb dX9_names_419 (by decide) (fun c_ => absurd c_ (by decide)) (fun _ => ?_)
  refine lv_iload_n hx hb dX9_names_422 rfl (lv_at hl 3 rfl) ?_
  refine lv_bipush (v := 39) hx hb dX9_names_423 (by decide) ?_
  refine lv_isub hx hb dX9_names_425 ?_
  refine r_topi (x := 49 - 39) (y := 10) (by decide) ?_
  refine lv_bipush (v := 10) hx hb dX9_names_426 (by decide) ?_
  refine lv_irem hx hb dX9_names_428 (by decide) ?_
  refine r_topi (x := 10 - 10 / 10 * 10) (y := 0) (by decide) ?_
  refine lv_istore (lv' := [(5, .int 0), (4, .int 0), (3, .int 0), (2, .int 0), (0, .int 49), (1, .int wh)]) hx hb dX9_names_429 hl (by decide) rfl (fun ls hl => ?_)
  refine lv_iload hx hb dX9_names_431 (lv_at hl 0 rfl) ?_
  refine lv_iconst (v := 5) hx hb dX9_names_433 (by decide) ?_
  refine lv_icmp_ge (tgt := 441) hx hb dX9_names_434 (by decide) (fun c_ => absurd c_ (by decide)) (fun _ => ?_)
  refine lv_iconst (v := 1) hx hb dX9_names_437 (by decide) ?_
  refine lv_goto (tgt := 474) hx hb dX9_names_438 (by decide) ?_
  refine lv_istore_n (lv' := [(2, .int 1), (5, .int 0), (4, .int 0), (3, .int 0), (0, .int 49), (1, .int wh)]) hx hb dX9_names_474 rfl hl (by decide) rfl (fun ls hl => ?_)
  refine lv_iconst (v := 5) hx hb dX9_names_475 (by decide) ?_
  refine lv_istore_n (lv' := [(3, .int 5), (2, .int 1), (5, .int 0), (4, .int 0), (0, .int 49), (1, .int wh)]) hx hb dX9_names_476 rfl hl (by decide) rfl (fun ls hl => ?_)
  refine lv_iconst (v := 1) hx hb dX9_names_477 (by decide) ?_
  refine lv_istore (lv' := [(4, .int 1), (3, .int 5), (2, .int 1), (5, .int 0), (0, .int 49), (1, .int wh)]) hx hb dX9_names_478 hl (by decide) rfl (fun ls hl => ?_)
  refine lv_goto (tgt := 605) hx hb dX9_names_480 (by decide) ?_
  refine lv_iload_n hx hb dX9_names_605 rfl (lv_at hl 5 rfl) ?_
  refine lv_if_ne (tgt := 613) hx hb dX9_names_606 (by decide) (fun c_16 => ?_) (fun c_16 => ?_)
  · refine lv_iload_n hx hb dX9_names_613 rfl (lv_at hl 5 rfl) ?_
    refine lv_iconst (v := 1) hx hb dX9_names_614 (by decide) ?_
    refine lv_icmp_ne (tgt := 622) hx hb dX9_names_615 (by decide) (fun c_17 => ?_) (fun c_17 => ?_)
    · refine lv_iload hx hb dX9_names_622 (lv_at hl 0 rfl) ?_
      exact r_iret hC hr hlk hw () rfl ((if_neg c_16).trans (if_neg c_17)).symm (Nat.le_of_ble_eq_true rfl) (Nat.le_of_ble_eq_true rfl) dX9_names_624
    · refine lv_iload_n hx hb dX9_names_618 rfl (lv_at hl 1 rfl) ?_
      refine lv_goto (tgt := 624) hx hb dX9_names_619 (by decide) ?_
      exact r_iret hC hr hlk hw () rfl ((if_neg c_16).trans (if_pos c_17)).symm (Nat.le_of_ble_eq_true rfl) (Nat.le_of_ble_eq_true rfl) dX9_names_624
  · refine lv_iload_n hx hb dX9_names_609 rfl (lv_at hl 2 rfl) ?_
    refine lv_goto (tgt := 624) hx hb dX9_names_610 (by decide) ?_
    exact r_iret hC hr hlk hw () rfl (if_pos c_16).symm (Nat.le_of_ble_eq_true rfl) (Nat.le_of_ble_eq_true rfl) dX9_names_624

set_option maxHeartbeats 4000000 in
set_option maxRecDepth 100000 in
theorem c_X9_names_50 (l : Launch) {D : va_G} {q : Nat → ClassId} (w : wT) (sz : Nat) (wh : Int32) : Met l yX9_names wsX9_names (rmz 1 22) (va_Pc [.int 50, .int wh] (rPre D q w sz)) (va_Qi (fun (r : Int32) (u : Unit) => r = if wh = 0 then 1 else if wh = 1 then 5 else 1) (fun (u : Unit) tt => rPo D (rA w sz) w tt) (rA w sz)) 0 0 (rA w sz) := by
  refine r_start (cc := cX9_names) (maxL := 6) (ret := (some .int)) (by decide) rfl (Nat.le_of_ble_eq_true rfl) ?_
  intro p e s m below meth c ls hC hr hlk hnm hsz hw hl
  have hx := hC.1
  have hb := hC.2.1
  have hl : lv_has ls 6 [(0, .int 50), (1, .int wh)] := hl
  refine lv_iconst (v := 0) hx hb dX9_names_0 (by decide) ?_
  refine lv_istore_n (lv' := [(2, .int 0), (0, .int 50), (1, .int wh)]) hx hb dX9_names_1 rfl hl (by decide) rfl (fun ls hl => ?_)
  refine lv_iconst (v := 0) hx hb dX9_names_2 (by decide) ?_
  refine lv_istore_n (lv' := [(3, .int 0), (2, .int 0), (0, .int 50), (1, .int wh)]) hx hb dX9_names_3 rfl hl (by decide) rfl (fun ls hl => ?_)
  refine lv_iconst (v := 0) hx hb dX9_names_4 (by decide) ?_
  refine lv_istore (lv' := [(4, .int 0), (3, .int 0), (2, .int 0), (0, .int 50), (1, .int wh)]) hx hb dX9_names_5 hl (by decide) rfl (fun ls hl => ?_)
  refine lv_iload_n hx hb dX9_names_7 rfl (lv_at hl 3 rfl) ?_
  refine lv_iconst (v := 1) hx hb dX9_names_8 (by decide) ?_
  refine lv_icmp_eq (tgt := 24) hx hb dX9_names_9 (by decide) (fun c_ => absurd c_ (by decide)) (fun _ => ?_)
  refine lv_iload_n hx hb dX9_names_12 rfl (lv_at hl 3 rfl) ?_
  refine lv_bipush (v := 72) hx hb dX9_names_13 (by decide) ?_
  refine lv_icmp_eq (tgt := 24) hx hb dX9_names_15 (by decide) (fun c_ => absurd c_ (by decide)) (fun _ => ?_)
  refine lv_iload_n hx hb dX9_names_18 rfl (lv_at hl 3 rfl) ?_
  refine lv_bipush (v := 73) hx hb dX9_names_19 (by decide) ?_
  refine lv_icmp_ne (tgt := 29) hx hb dX9_names_21 (by decide) (fun _ => ?_) (fun c_ => absurd c_ (by decide))
  refine lv_iload_n hx hb dX9_names_29 rfl (lv_at hl 3 rfl) ?_
  refine lv_iconst (v := 2) hx hb dX9_names_30 (by decide) ?_
  refine lv_icmp_ne (tgt := 39) hx hb dX9_names_31 (by decide) (fun _ => ?_) (fun c_ => absurd c_ (by decide))
  refine lv_iload_n hx hb dX9_names_39 rfl (lv_at hl 3 rfl) ?_
  refine lv_iconst (v := 3) hx hb dX9_names_40 (by decide) ?_
  refine lv_icmp_ne (tgt := 51) hx hb dX9_names_41 (by decide) (fun _ => ?_) (fun c_ => absurd c_ (by decide))
  refine lv_iload_n hx hb dX9_names_51 rfl (lv_at hl 3 rfl) ?_
  refine lv_iconst (v := 4) hx hb dX9_names_52 (by decide) ?_
  refine lv_bipush (v := 8) hx hb dX9_names_53 (by decide) ?_
  refine r_ki hw (r_runS (rest := []) hC hw (c_X9_isIn l _ _ 50 4 8) 3 gX9_names_X9_isIn rfl rfl rfl (by decide +kernel) ⟨Nat.le_of_ble_eq_true rfl, Nat.le_of_ble_eq_true rfl⟩ rfl hl.1 rfl (Nat.le_of_ble_eq_true rfl) dX9_names_55 ⟨Nat.le_of_ble_eq_true rfl, Nat.le_of_ble_eq_true rfl⟩) (fun r_2 u_3 H locs h_1 hw => ?_)
  rw [if_neg (by decide)] at h_1
  subst h_1
  refine lv_if_ne (tgt := 67) hx hb dX9_names_58 (by decide) (fun c_ => absurd (by decide) c_) (fun _ => ?_)
  refine lv_iload_n hx hb dX9_names_61 rfl (lv_at hl 3 rfl) ?_
  refine lv_bipush (v := 25) hx hb dX9_names_62 (by decide) ?_
  refine lv_icmp_ne (tgt := 77) hx hb dX9_names_64 (by decide) (fun _ => ?_) (fun c_ => absurd c_ (by decide))
  refine lv_iload_n hx hb dX9_names_77 rfl (lv_at hl 3 rfl) ?_
  refine lv_bipush (v := 9) hx hb dX9_names_78 (by decide) ?_
  refine lv_bipush (v := 12) hx hb dX9_names_80 (by decide) ?_
  refine r_ki hw (r_runS (rest := []) hC hw (c_X9_isIn l _ _ 50 9 12) 3 gX9_names_X9_isIn rfl rfl rfl (by decide +kernel) ⟨Nat.le_of_ble_eq_true rfl, Nat.le_of_ble_eq_true rfl⟩ rfl hl.1 rfl (Nat.le_of_ble_eq_true rfl) dX9_names_82 ⟨Nat.le_of_ble_eq_true rfl, Nat.le_of_ble_eq_true rfl⟩) (fun r_5 u_6 H locs h_4 hw => ?_)
  rw [if_neg (by decide)] at h_4
  subst h_4
  refine lv_if_eq (tgt := 98) hx hb dX9_names_85 (by decide) (fun _ => ?_) (fun c_ => absurd (by decide) c_)
  refine lv_iload_n hx hb dX9_names_98 rfl (lv_at hl 3 rfl) ?_
  refine lv_bipush (v := 13) hx hb dX9_names_99 (by decide) ?_
  refine lv_bipush (v := 24) hx hb dX9_names_101 (by decide) ?_
  refine r_ki hw (r_runS (rest := []) hC hw (c_X9_isIn l _ _ 50 13 24) 3 gX9_names_X9_isIn rfl rfl rfl (by decide +kernel) ⟨Nat.le_of_ble_eq_true rfl, Nat.le_of_ble_eq_true rfl⟩ rfl hl.1 rfl (Nat.le_of_ble_eq_true rfl) dX9_names_103 ⟨Nat.le_of_ble_eq_true rfl, Nat.le_of_ble_eq_true rfl⟩) (fun r_8 u_9 H locs h_7 hw => ?_)
  rw [if_neg (by decide)] at h_7
  subst h_7
  refine lv_if_ne (tgt := 115) hx hb dX9_names_106 (by decide) (fun c_ => absurd (by decide) c_) (fun _ => ?_)
  refine lv_iload_n hx hb dX9_names_109 rfl (lv_at hl 3 rfl) ?_
  refine lv_bipush (v := 26) hx hb dX9_names_110 (by decide) ?_
  refine lv_icmp_ne (tgt := 270) hx hb dX9_names_112 (by decide) (fun _ => ?_) (fun c_ => absurd c_ (by decide))
  refine lv_iload_n hx hb dX9_names_270 rfl (lv_at hl 3 rfl) ?_
  refine lv_bipush (v := 27) hx hb dX9_names_271 (by decide) ?_
  refine lv_icmp_eq (tgt := 282) hx hb dX9_names_273 (by decide) (fun c_ => absurd c_ (by decide)) (fun _ => ?_)
  refine lv_iload_n hx hb dX9_names_276 rfl (lv_at hl 3 rfl) ?_
  refine lv_bipush (v := 29) hx hb dX9_names_277 (by decide) ?_
  refine lv_icmp_ne (tgt := 288) hx hb dX9_names_279 (by decide) (fun _ => ?_) (fun c_ => absurd c_ (by decide))
  refine lv_iload_n hx hb dX9_names_288 rfl (lv_at hl 3 rfl) ?_
  refine lv_bipush (v := 28) hx hb dX9_names_289 (by decide) ?_
  refine lv_icmp_ne (tgt := 302) hx hb dX9_names_291 (by decide) (fun _ => ?_) (fun c_ => absurd c_ (by decide))
  refine lv_iload_n hx hb dX9_names_302 rfl (lv_at hl 3 rfl) ?_
  refine lv_bipush (v := 31) hx hb dX9_names_303 (by decide) ?_
  refine lv_bipush (v := 38) hx hb dX9_names_305 (by decide) ?_
  refine r_ki hw (r_runS (rest := []) hC hw (c_X9_isIn l _ _ 50 31 38) 3 gX9_names_X9_isIn rfl rfl rfl (by decide +kernel) ⟨Nat.le_of_ble_eq_true rfl, Nat.le_of_ble_eq_true rfl⟩ rfl hl.1 rfl (Nat.le_of_ble_eq_true rfl) dX9_names_307 ⟨Nat.le_of_ble_eq_true rfl, Nat.le_of_ble_eq_true rfl⟩) (fun r_11 u_12 H locs h_10 hw => ?_)
  rw [if_neg (by decide)] at h_10
  subst h_10
  refine lv_if_eq (tgt := 411) hx hb dX9_names_310 (by decide) (fun _ => ?_) (fun c_ => absurd (by decide) c_)
  refine lv_iload_n hx hb dX9_names_411 rfl (lv_at hl 3 rfl) ?_
  refine lv_bipush (v := 39) hx hb dX9_names_412 (by decide) ?_
  refine lv_bipush (v := 58) hx hb dX9_names_414 (by decide) ?_
  refine r_ki hw (r_runS (rest := []) hC hw (c_X9_isIn l _ _ 50 39 58) 3 gX9_names_X9_isIn rfl rfl rfl (by decide +kernel) ⟨Nat.le_of_ble_eq_true rfl, Nat.le_of_ble_eq_true rfl⟩ rfl hl.1 rfl (Nat.le_of_ble_eq_true rfl) dX9_names_416 ⟨Nat.le_of_ble_eq_true rfl, Nat.le_of_ble_eq_true rfl⟩) (fun r_14 u_15 H locs h_13 hw => ?_)
  rw [if_pos (by decide)] at h_13
  subst h_13
  refine lv_if_eq (tgt := 483) hx hb dX9_names_419 (by decide) (fun c_ => absurd c_ (by decide)) (fun _ => ?_)
  refine lv_iload_n hx hb dX9_names_422 rfl (lv_at hl 3 rfl) ?_
  refine lv_bipush (v := 39) hx hb dX9_names_423 (by decide) ?_
  refine lv_isub hx hb dX9_names_425 ?_
  refine r_topi (x := 50 - 39) (y := 11) (by decide) ?_
  refine lv_bipush (v := 10) hx hb dX9_names_426 (by decide) ?_
  refine lv_irem hx hb dX9_names_428 (by decide) ?_
  refine r_topi (x := 11 - 11 / 10 * 10) (y := 1) (by decide) ?_
  refine lv_istore (lv' := [(5, .int 1), (4, .int 0), (3, .int 0), (2, .int 0), (0, .int 50), (1, .int wh)]) hx hb dX9_names_429 hl (by decide) rfl (fun ls hl => ?_)
  refine lv_iload hx hb dX9_names_431 (lv_at hl 0 rfl) ?_
  refine lv_iconst (v := 5) hx hb dX9_names_433 (by decide) ?_
  refine lv_icmp_ge (tgt := 441) hx hb dX9_names_434 (by decide) (fun c_ => absurd c_ (by decide)) (fun _ => ?_)
  refine lv_iconst (v := 1) hx hb dX9_names_437 (by decide) ?_
  refine lv_goto (tgt := 474) hx hb dX9_names_438 (by decide) ?_
  refine lv_istore_n (lv' := [(2, .int 1), (5, .int 1), (4, .int 0), (3, .int 0), (0, .int 50), (1, .int wh)]) hx hb dX9_names_474 rfl hl (by decide) rfl (fun ls hl => ?_)
  refine lv_iconst (v := 5) hx hb dX9_names_475 (by decide) ?_
  refine lv_istore_n (lv' := [(3, .int 5), (2, .int 1), (5, .int 1), (4, .int 0), (0, .int 50), (1, .int wh)]) hx hb dX9_names_476 rfl hl (by decide) rfl (fun ls hl => ?_)
  refine lv_iconst (v := 1) hx hb dX9_names_477 (by decide) ?_
  refine lv_istore (lv' := [(4, .int 1), (3, .int 5), (2, .int 1), (5, .int 1), (0, .int 50), (1, .int wh)]) hx hb dX9_names_478 hl (by decide) rfl (fun ls hl => ?_)
  refine lv_goto (tgt := 605) hx hb dX9_names_480 (by decide) ?_
  refine lv_iload_n hx hb dX9_names_605 rfl (lv_at hl 5 rfl) ?_
  refine lv_if_ne (tgt := 613) hx hb dX9_names_606 (by decide) (fun c_16 => ?_) (fun c_16 => ?_)
  · refine lv_iload_n hx hb dX9_names_613 rfl (lv_at hl 5 rfl) ?_
    refine lv_iconst (v := 1) hx hb dX9_names_614 (by decide) ?_
    refine lv_icmp_ne (tgt := 622) hx hb dX9_names_615 (by decide) (fun c_17 => ?_) (fun c_17 => ?_)
    · refine lv_iload hx hb dX9_names_622 (lv_at hl 0 rfl) ?_
      exact r_iret hC hr hlk hw () rfl ((if_neg c_16).trans (if_neg c_17)).symm (Nat.le_of_ble_eq_true rfl) (Nat.le_of_ble_eq_true rfl) dX9_names_624
    · refine lv_iload_n hx hb dX9_names_618 rfl (lv_at hl 1 rfl) ?_
      refine lv_goto (tgt := 624) hx hb dX9_names_619 (by decide) ?_
      exact r_iret hC hr hlk hw () rfl ((if_neg c_16).trans (if_pos c_17)).symm (Nat.le_of_ble_eq_true rfl) (Nat.le_of_ble_eq_true rfl) dX9_names_624
  · refine lv_iload_n hx hb dX9_names_609 rfl (lv_at hl 2 rfl) ?_
    refine lv_goto (tgt := 624) hx hb dX9_names_610 (by decide) ?_
    exact r_iret hC hr hlk hw () rfl (if_pos c_16).symm (Nat.le_of_ble_eq_true rfl) (Nat.le_of_ble_eq_true rfl) dX9_names_624

set_option maxHeartbeats 4000000 in
set_option maxRecDepth 100000 in
theorem c_X9_names_51 (l : Launch) {D : va_G} {q : Nat → ClassId} (w : wT) (sz : Nat) (wh : Int32) : Met l yX9_names wsX9_names (rmz 1 22) (va_Pc [.int 51, .int wh] (rPre D q w sz)) (va_Qi (fun (r : Int32) (u : Unit) => r = if wh = 0 then 1 else if wh = 1 then 5 else 1) (fun (u : Unit) tt => rPo D (rA w sz) w tt) (rA w sz)) 0 0 (rA w sz) := by
  refine r_start (cc := cX9_names) (maxL := 6) (ret := (some .int)) (by decide) rfl (Nat.le_of_ble_eq_true rfl) ?_
  intro p e s m below meth c ls hC hr hlk hnm hsz hw hl
  have hx := hC.1
  have hb := hC.2.1
  have hl : lv_has ls 6 [(0, .int 51), (1, .int wh)] := hl
  refine lv_iconst (v := 0) hx hb dX9_names_0 (by decide) ?_
  refine lv_istore_n (lv' := [(2, .int 0), (0, .int 51), (1, .int wh)]) hx hb dX9_names_1 rfl hl (by decide) rfl (fun ls hl => ?_)
  refine lv_iconst (v := 0) hx hb dX9_names_2 (by decide) ?_
  refine lv_istore_n (lv' := [(3, .int 0), (2, .int 0), (0, .int 51), (1, .int wh)]) hx hb dX9_names_3 rfl hl (by decide) rfl (fun ls hl => ?_)
  refine lv_iconst (v := 0) hx hb dX9_names_4 (by decide) ?_
  refine lv_istore (lv' := [(4, .int 0), (3, .int 0), (2, .int 0), (0, .int 51), (1, .int wh)]) hx hb dX9_names_5 hl (by decide) rfl (fun ls hl => ?_)
  refine lv_iload_n hx hb dX9_names_7 rfl (lv_at hl 3 rfl) ?_
  refine lv_iconst (v := 1) hx hb dX9_names_8 (by decide) ?_
  refine lv_icmp_eq (tgt := 24) hx hb dX9_names_9 (by decide) (fun c_ => absurd c_ (by decide)) (fun _ => ?_)
  refine lv_iload_n hx hb dX9_names_12 rfl (lv_at hl 3 rfl) ?_
  refine lv_bipush (v := 72) hx hb dX9_names_13 (by decide) ?_
  refine lv_icmp_eq (tgt := 24) hx hb dX9_names_15 (by decide) (fun c_ => absurd c_ (by decide)) (fun _ => ?_)
  refine lv_iload_n hx hb dX9_names_18 rfl (lv_at hl 3 rfl) ?_
  refine lv_bipush (v := 73) hx hb dX9_names_19 (by decide) ?_
  refine lv_icmp_ne (tgt := 29) hx hb dX9_names_21 (by decide) (fun _ => ?_) (fun c_ => absurd c_ (by decide))
  refine lv_iload_n hx hb dX9_names_29 rfl (lv_at hl 3 rfl) ?_
  refine lv_iconst (v := 2) hx hb dX9_names_30 (by decide) ?_
  refine lv_icmp_ne (tgt := 39) hx hb dX9_names_31 (by decide) (fun _ => ?_) (fun c_ => absurd c_ (by decide))
  refine lv_iload_n hx hb dX9_names_39 rfl (lv_at hl 3 rfl) ?_
  refine lv_iconst (v := 3) hx hb dX9_names_40 (by decide) ?_
  refine lv_icmp_ne (tgt := 51) hx hb dX9_names_41 (by decide) (fun _ => ?_) (fun c_ => absurd c_ (by decide))
  refine lv_iload_n hx hb dX9_names_51 rfl (lv_at hl 3 rfl) ?_
  refine lv_iconst (v := 4) hx hb dX9_names_52 (by decide) ?_
  refine lv_bipush (v := 8) hx hb dX9_names_53 (by decide) ?_
  refine r_ki hw (r_runS (rest := []) hC hw (c_X9_isIn l _ _ 51 4 8) 3 gX9_names_X9_isIn rfl rfl rfl (by decide +kernel) ⟨Nat.le_of_ble_eq_true rfl, Nat.le_of_ble_eq_true rfl⟩ rfl hl.1 rfl (Nat.le_of_ble_eq_true rfl) dX9_names_55 ⟨Nat.le_of_ble_eq_true rfl, Nat.le_of_ble_eq_true rfl⟩) (fun r_2 u_3 H locs h_1 hw => ?_)
  rw [if_neg (by decide)] at h_1
  subst h_1
  refine lv_if_ne (tgt := 67) hx hb dX9_names_58 (by decide) (fun c_ => absurd (by decide) c_) (fun _ => ?_)
  refine lv_iload_n hx hb dX9_names_61 rfl (lv_at hl 3 rfl) ?_
  refine lv_bipush (v := 25) hx hb dX9_names_62 (by decide) ?_
  refine lv_icmp_ne (tgt := 77) hx hb dX9_names_64 (by decide) (fun _ => ?_) (fun c_ => absurd c_ (by decide))
  refine lv_iload_n hx hb dX9_names_77 rfl (lv_at hl 3 rfl) ?_
  refine lv_bipush (v := 9) hx hb dX9_names_78 (by decide) ?_
  refine lv_bipush (v := 12) hx hb dX9_names_80 (by decide) ?_
  refine r_ki hw (r_runS (rest := []) hC hw (c_X9_isIn l _ _ 51 9 12) 3 gX9_names_X9_isIn rfl rfl rfl (by decide +kernel) ⟨Nat.le_of_ble_eq_true rfl, Nat.le_of_ble_eq_true rfl⟩ rfl hl.1 rfl (Nat.le_of_ble_eq_true rfl) dX9_names_82 ⟨Nat.le_of_ble_eq_true rfl, Nat.le_of_ble_eq_true rfl⟩) (fun r_5 u_6 H locs h_4 hw => ?_)
  rw [if_neg (by decide)] at h_4
  subst h_4
  refine lv_if_eq (tgt := 98) hx hb dX9_names_85 (by decide) (fun _ => ?_) (fun c_ => absurd (by decide) c_)
  refine lv_iload_n hx hb dX9_names_98 rfl (lv_at hl 3 rfl) ?_
  refine lv_bipush (v := 13) hx hb dX9_names_99 (by decide) ?_
  refine lv_bipush (v := 24) hx hb dX9_names_101 (by decide) ?_
  refine r_ki hw (r_runS (rest := []) hC hw (c_X9_isIn l _ _ 51 13 24) 3 gX9_names_X9_isIn rfl rfl rfl (by decide +kernel) ⟨Nat.le_of_ble_eq_true rfl, Nat.le_of_ble_eq_true rfl⟩ rfl hl.1 rfl (Nat.le_of_ble_eq_true rfl) dX9_names_103 ⟨Nat.le_of_ble_eq_true rfl, Nat.le_of_ble_eq_true rfl⟩) (fun r_8 u_9 H locs h_7 hw => ?_)
  rw [if_neg (by decide)] at h_7
  subst h_7
  refine lv_if_ne (tgt := 115) hx hb dX9_names_106 (by decide) (fun c_ => absurd (by decide) c_) (fun _ => ?_)
  refine lv_iload_n hx hb dX9_names_109 rfl (lv_at hl 3 rfl) ?_
  refine lv_bipush (v := 26) hx hb dX9_names_110 (by decide) ?_
  refine lv_icmp_ne (tgt := 270) hx hb dX9_names_112 (by decide) (fun _ => ?_) (fun c_ => absurd c_ (by decide))
  refine lv_iload_n hx hb dX9_names_270 rfl (lv_at hl 3 rfl) ?_
  refine lv_bipush (v := 27) hx hb dX9_names_271 (by decide) ?_
  refine lv_icmp_eq (tgt := 282) hx hb dX9_names_273 (by decide) (fun c_ => absurd c_ (by decide)) (fun _ => ?_)
  refine lv_iload_n hx hb dX9_names_276 rfl (lv_at hl 3 rfl) ?_
  refine lv_bipush (v := 29) hx hb dX9_names_277 (by decide) ?_
  refine lv_icmp_ne (tgt := 288) hx hb dX9_names_279 (by decide) (fun _ => ?_) (fun c_ => absurd c_ (by decide))
  refine lv_iload_n hx hb dX9_names_288 rfl (lv_at hl 3 rfl) ?_
  refine lv_bipush (v := 28) hx hb dX9_names_289 (by decide) ?_
  refine lv_icmp_ne (tgt := 302) hx hb dX9_names_291 (by decide) (fun _ => ?_) (fun c_ => absurd c_ (by decide))
  refine lv_iload_n hx hb dX9_names_302 rfl (lv_at hl 3 rfl) ?_
  refine lv_bipush (v := 31) hx hb dX9_names_303 (by decide) ?_
  refine lv_bipush (v := 38) hx hb dX9_names_305 (by decide) ?_
  refine r_ki hw (r_runS (rest := []) hC hw (c_X9_isIn l _ _ 51 31 38) 3 gX9_names_X9_isIn rfl rfl rfl (by decide +kernel) ⟨Nat.le_of_ble_eq_true rfl, Nat.le_of_ble_eq_true rfl⟩ rfl hl.1 rfl (Nat.le_of_ble_eq_true rfl) dX9_names_307 ⟨Nat.le_of_ble_eq_true rfl, Nat.le_of_ble_eq_true rfl⟩) (fun r_11 u_12 H locs h_10 hw => ?_)
  rw [if_neg (by decide)] at h_10
  subst h_10
  refine lv_if_eq (tgt := 411) hx hb dX9_names_310 (by decide) (fun _ => ?_) (fun c_ => absurd (by decide) c_)
  refine lv_iload_n hx hb dX9_names_411 rfl (lv_at hl 3 rfl) ?_
  refine lv_bipush (v := 39) hx hb dX9_names_412 (by decide) ?_
  refine lv_bipush (v := 58) hx hb dX9_names_414 (by decide) ?_
  refine r_ki hw (r_runS (rest := []) hC hw (c_X9_isIn l _ _ 51 39 58) 3 gX9_names_X9_isIn rfl rfl rfl (by decide +kernel) ⟨Nat.le_of_ble_eq_true rfl, Nat.le_of_ble_eq_true rfl⟩ rfl hl.1 rfl (Nat.le_of_ble_eq_true rfl) dX9_names_416 ⟨Nat.le_of_ble_eq_true rfl, Nat.le_of_ble_eq_true rfl⟩) (fun r_14 u_15 H locs h_13 hw => ?_)
  rw [if_pos (by decide)] at h_13
  subst h_13
  refine lv_if_eq (tgt := 483) hx hb dX9_names_419 (by decide) (fun c_ => absurd c_ (by decide)) (fun _ => ?_)
  refine lv_iload_n hx hb dX9_names_422 rfl (lv_at hl 3 rfl) ?_
  refine lv_bipush (v := 39) hx hb dX9_names_423 (by decide) ?_
  refine lv_isub hx hb dX9_names_425 ?_
  refine r_topi (x := 51 - 39) (y := 12) (by decide) ?_
  refine lv_bipush (v := 10) hx hb dX9_names_426 (by decide) ?_
  refine lv_irem hx hb dX9_names_428 (by decide) ?_
  refine r_topi (x := 12 - 12 / 10 * 10) (y := 2) (by decide) ?_
  refine lv_istore (lv' := [(5, .int 2), (4, .int 0), (3, .int 0), (2, .int 0), (0, .int 51), (1, .int wh)]) hx hb dX9_names_429 hl (by decide) rfl (fun ls hl => ?_)
  refine lv_iload hx hb dX9_names_431 (lv_at hl 0 rfl) ?_
  refine lv_iconst (v := 5) hx hb dX9_names_433 (by decide) ?_
  refine lv_icmp_ge (tgt := 441) hx hb dX9_names_434 (by decide) (fun c_ => absurd c_ (by decide)) (fun _ => ?_)
  refine lv_iconst (v := 1) hx hb dX9_names_437 (by decide) ?_
  refine lv_goto (tgt := 474) hx hb dX9_names_438 (by decide) ?_
  refine lv_istore_n (lv' := [(2, .int 1), (5, .int 2), (4, .int 0), (3, .int 0), (0, .int 51), (1, .int wh)]) hx hb dX9_names_474 rfl hl (by decide) rfl (fun ls hl => ?_)
  refine lv_iconst (v := 5) hx hb dX9_names_475 (by decide) ?_
  refine lv_istore_n (lv' := [(3, .int 5), (2, .int 1), (5, .int 2), (4, .int 0), (0, .int 51), (1, .int wh)]) hx hb dX9_names_476 rfl hl (by decide) rfl (fun ls hl => ?_)
  refine lv_iconst (v := 1) hx hb dX9_names_477 (by decide) ?_
  refine lv_istore (lv' := [(4, .int 1), (3, .int 5), (2, .int 1), (5, .int 2), (0, .int 51), (1, .int wh)]) hx hb dX9_names_478 hl (by decide) rfl (fun ls hl => ?_)
  refine lv_goto (tgt := 605) hx hb dX9_names_480 (by decide) ?_
  refine lv_iload_n hx hb dX9_names_605 rfl (lv_at hl 5 rfl) ?_
  refine lv_if_ne (tgt := 613) hx hb dX9_names_606 (by decide) (fun c_16 => ?_) (fun c_16 => ?_)
  · refine lv_iload_n hx hb dX9_names_613 rfl (lv_at hl 5 rfl) ?_
    refine lv_iconst (v := 1) hx hb dX9_names_614 (by decide) ?_
    refine lv_icmp_ne (tgt := 622) hx hb dX9_names_615 (by decide) (fun c_17 => ?_) (fun c_17 => ?_)
    · refine lv_iload hx hb dX9_names_622 (lv_at hl 0 rfl) ?_
      exact r_iret hC hr hlk hw () rfl ((if_neg c_16).trans (if_neg c_17)).symm (Nat.le_of_ble_eq_true rfl) (Nat.le_of_ble_eq_true rfl) dX9_names_624
    · refine lv_iload_n hx hb dX9_names_618 rfl (lv_at hl 1 rfl) ?_
      refine lv_goto (tgt := 624) hx hb dX9_names_619 (by decide) ?_
      exact r_iret hC hr hlk hw () rfl ((if_neg c_16).trans (if_pos c_17)).symm (Nat.le_of_ble_eq_true rfl) (Nat.le_of_ble_eq_true rfl) dX9_names_624
  · refine lv_iload_n hx hb dX9_names_609 rfl (lv_at hl 2 rfl) ?_
    refine lv_goto (tgt := 624) hx hb dX9_names_610 (by decide) ?_
    exact r_iret hC hr hlk hw () rfl (if_pos c_16).symm (Nat.le_of_ble_eq_true rfl) (Nat.le_of_ble_eq_true rfl) dX9_names_624

set_option maxHeartbeats 4000000 in
set_option maxRecDepth 100000 in
theorem c_X9_names_52 (l : Launch) {D : va_G} {q : Nat → ClassId} (w : wT) (sz : Nat) (wh : Int32) : Met l yX9_names wsX9_names (rmz 1 22) (va_Pc [.int 52, .int wh] (rPre D q w sz)) (va_Qi (fun (r : Int32) (u : Unit) => r = if wh = 0 then 1 else if wh = 1 then 5 else 1) (fun (u : Unit) tt => rPo D (rA w sz) w tt) (rA w sz)) 0 0 (rA w sz) := by
  refine r_start (cc := cX9_names) (maxL := 6) (ret := (some .int)) (by decide) rfl (Nat.le_of_ble_eq_true rfl) ?_
  intro p e s m below meth c ls hC hr hlk hnm hsz hw hl
  have hx := hC.1
  have hb := hC.2.1
  have hl : lv_has ls 6 [(0, .int 52), (1, .int wh)] := hl
  refine lv_iconst (v := 0) hx hb dX9_names_0 (by decide) ?_
  refine lv_istore_n (lv' := [(2, .int 0), (0, .int 52), (1, .int wh)]) hx hb dX9_names_1 rfl hl (by decide) rfl (fun ls hl => ?_)
  refine lv_iconst (v := 0) hx hb dX9_names_2 (by decide) ?_
  refine lv_istore_n (lv' := [(3, .int 0), (2, .int 0), (0, .int 52), (1, .int wh)]) hx hb dX9_names_3 rfl hl (by decide) rfl (fun ls hl => ?_)
  refine lv_iconst (v := 0) hx hb dX9_names_4 (by decide) ?_
  refine lv_istore (lv' := [(4, .int 0), (3, .int 0), (2, .int 0), (0, .int 52), (1, .int wh)]) hx hb dX9_names_5 hl (by decide) rfl (fun ls hl => ?_)
  refine lv_iload_n hx hb dX9_names_7 rfl (lv_at hl 3 rfl) ?_
  refine lv_iconst (v := 1) hx hb dX9_names_8 (by decide) ?_
  refine lv_icmp_eq (tgt := 24) hx hb dX9_names_9 (by decide) (fun c_ => absurd c_ (by decide)) (fun _ => ?_)
  refine lv_iload_n hx hb dX9_names_12 rfl (lv_at hl 3 rfl) ?_
  refine lv_bipush (v := 72) hx hb dX9_names_13 (by decide) ?_
  refine lv_icmp_eq (tgt := 24) hx hb dX9_names_15 (by decide) (fun c_ => absurd c_ (by decide)) (fun _ => ?_)
  refine lv_iload_n hx hb dX9_names_18 rfl (lv_at hl 3 rfl) ?_
  refine lv_bipush (v := 73) hx hb dX9_names_19 (by decide) ?_
  refine lv_icmp_ne (tgt := 29) hx hb dX9_names_21 (by decide) (fun _ => ?_) (fun c_ => absurd c_ (by decide))
  refine lv_iload_n hx hb dX9_names_29 rfl (lv_at hl 3 rfl) ?_
  refine lv_iconst (v := 2) hx hb dX9_names_30 (by decide) ?_
  refine lv_icmp_ne (tgt := 39) hx hb dX9_names_31 (by decide) (fun _ => ?_) (fun c_ => absurd c_ (by decide))
  refine lv_iload_n hx hb dX9_names_39 rfl (lv_at hl 3 rfl) ?_
  refine lv_iconst (v := 3) hx hb dX9_names_40 (by decide) ?_
  refine lv_icmp_ne (tgt := 51) hx hb dX9_names_41 (by decide) (fun _ => ?_) (fun c_ => absurd c_ (by decide))
  refine lv_iload_n hx hb dX9_names_51 rfl (lv_at hl 3 rfl) ?_
  refine lv_iconst (v := 4) hx hb dX9_names_52 (by decide) ?_
  refine lv_bipush (v := 8) hx hb dX9_names_53 (by decide) ?_
  refine r_ki hw (r_runS (rest := []) hC hw (c_X9_isIn l _ _ 52 4 8) 3 gX9_names_X9_isIn rfl rfl rfl (by decide +kernel) ⟨Nat.le_of_ble_eq_true rfl, Nat.le_of_ble_eq_true rfl⟩ rfl hl.1 rfl (Nat.le_of_ble_eq_true rfl) dX9_names_55 ⟨Nat.le_of_ble_eq_true rfl, Nat.le_of_ble_eq_true rfl⟩) (fun r_2 u_3 H locs h_1 hw => ?_)
  rw [if_neg (by decide)] at h_1
  subst h_1
  refine lv_if_ne (tgt := 67) hx hb dX9_names_58 (by decide) (fun c_ => absurd (by decide) c_) (fun _ => ?_)
  refine lv_iload_n hx hb dX9_names_61 rfl (lv_at hl 3 rfl) ?_
  refine lv_bipush (v := 25) hx hb dX9_names_62 (by decide) ?_
  refine lv_icmp_ne (tgt := 77) hx hb dX9_names_64 (by decide) (fun _ => ?_) (fun c_ => absurd c_ (by decide))
  refine lv_iload_n hx hb dX9_names_77 rfl (lv_at hl 3 rfl) ?_
  refine lv_bipush (v := 9) hx hb dX9_names_78 (by decide) ?_
  refine lv_bipush (v := 12) hx hb dX9_names_80 (by decide) ?_
  refine r_ki hw (r_runS (rest := []) hC hw (c_X9_isIn l _ _ 52 9 12) 3 gX9_names_X9_isIn rfl rfl rfl (by decide +kernel) ⟨Nat.le_of_ble_eq_true rfl, Nat.le_of_ble_eq_true rfl⟩ rfl hl.1 rfl (Nat.le_of_ble_eq_true rfl) dX9_names_82 ⟨Nat.le_of_ble_eq_true rfl, Nat.le_of_ble_eq_true rfl⟩) (fun r_5 u_6 H locs h_4 hw => ?_)
  rw [if_neg (by decide)] at h_4
  subst h_4
  refine lv_if_eq (tgt := 98) hx hb dX9_names_85 (by decide) (fun _ => ?_) (fun c_ => absurd (by decide) c_)
  refine lv_iload_n hx hb dX9_names_98 rfl (lv_at hl 3 rfl) ?_
  refine lv_bipush (v := 13) hx hb dX9_names_99 (by decide) ?_
  refine lv_bipush (v := 24) hx hb dX9_names_101 (by decide) ?_
  refine r_ki hw (r_runS (rest := []) hC hw (c_X9_isIn l _ _ 52 13 24) 3 gX9_names_X9_isIn rfl rfl rfl (by decide +kernel) ⟨Nat.le_of_ble_eq_true rfl, Nat.le_of_ble_eq_true rfl⟩ rfl hl.1 rfl (Nat.le_of_ble_eq_true rfl) dX9_names_103 ⟨Nat.le_of_ble_eq_true rfl, Nat.le_of_ble_eq_true rfl⟩) (fun r_8 u_9 H locs h_7 hw => ?_)
  rw [if_neg (by decide)] at h_7
  subst h_7
  refine lv_if_ne (tgt := 115) hx hb dX9_names_106 (by decide) (fun c_ => absurd (by decide) c_) (fun _ => ?_)
  refine lv_iload_n hx hb dX9_names_109 rfl (lv_at hl 3 rfl) ?_
  refine lv_bipush (v := 26) hx hb dX9_names_110 (by decide) ?_
  refine lv_icmp_ne (tgt := 270) hx hb dX9_names_112 (by decide) (fun _ => ?_) (fun c_ => absurd c_ (by decide))
  refine lv_iload_n hx hb dX9_names_270 rfl (lv_at hl 3 rfl) ?_
  refine lv_bipush (v := 27) hx hb dX9_names_271 (by decide) ?_
  refine lv_icmp_eq (tgt := 282) hx hb dX9_names_273 (by decide) (fun c_ => absurd c_ (by decide)) (fun _ => ?_)
  refine lv_iload_n hx hb dX9_names_276 rfl (lv_at hl 3 rfl) ?_
  refine lv_bipush (v := 29) hx hb dX9_names_277 (by decide) ?_
  refine lv_icmp_ne (tgt := 288) hx hb dX9_names_279 (by decide) (fun _ => ?_) (fun c_ => absurd c_ (by decide))
  refine lv_iload_n hx hb dX9_names_288 rfl (lv_at hl 3 rfl) ?_
  refine lv_bipush (v := 28) hx hb dX9_names_289 (by decide) ?_
  refine lv_icmp_ne (tgt := 302) hx hb dX9_names_291 (by decide) (fun _ => ?_) (fun c_ => absurd c_ (by decide))
  refine lv_iload_n hx hb dX9_names_302 rfl (lv_at hl 3 rfl) ?_
  refine lv_bipush (v := 31) hx hb dX9_names_303 (by decide) ?_
  refine lv_bipush (v := 38) hx hb dX9_names_305 (by decide) ?_
  refine r_ki hw (r_runS (rest := []) hC hw (c_X9_isIn l _ _ 52 31 38) 3 gX9_names_X9_isIn rfl rfl rfl (by decide +kernel) ⟨Nat.le_of_ble_eq_true rfl, Nat.le_of_ble_eq_true rfl⟩ rfl hl.1 rfl (Nat.le_of_ble_eq_true rfl) dX9_names_307 ⟨Nat.le_of_ble_eq_true rfl, Nat.le_of_ble_eq_true rfl⟩) (fun r_11 u_12 H locs h_10 hw => ?_)
  rw [if_neg (by decide)] at h_10
  subst h_10
  refine lv_if_eq (tgt := 411) hx hb dX9_names_310 (by decide) (fun _ => ?_) (fun c_ => absurd (by decide) c_)
  refine lv_iload_n hx hb dX9_names_411 rfl (lv_at hl 3 rfl) ?_
  refine lv_bipush (v := 39) hx hb dX9_names_412 (by decide) ?_
  refine lv_bipush (v := 58) hx hb dX9_names_414 (by decide) ?_
  refine r_ki hw (r_runS (rest := []) hC hw (c_X9_isIn l _ _ 52 39 58) 3 gX9_names_X9_isIn rfl rfl rfl (by decide +kernel) ⟨Nat.le_of_ble_eq_true rfl, Nat.le_of_ble_eq_true rfl⟩ rfl hl.1 rfl (Nat.le_of_ble_eq_true rfl) dX9_names_416 ⟨Nat.le_of_ble_eq_true rfl, Nat.le_of_ble_eq_true rfl⟩) (fun r_14 u_15 H locs h_13 hw => ?_)
  rw [if_pos (by decide)] at h_13
  subst h_13
  refine lv_if_eq (tgt := 483) hx hb dX9_names_419 (by decide) (fun c_ => absurd c_ (by decide)) (fun _ => ?_)
  refine lv_iload_n hx hb dX9_names_422 rfl (lv_at hl 3 rfl) ?_
  refine lv_bipush (v := 39) hx hb dX9_names_423 (by decide) ?_
  refine lv_isub hx hb dX9_names_425 ?_
  refine r_topi (x := 52 - 39) (y := 13) (by decide) ?_
  refine lv_bipush (v := 10) hx hb dX9_names_426 (by decide) ?_
  refine lv_irem hx hb dX9_names_428 (by decide) ?_
  refine r_topi (x := 13 - 13 / 10 * 10) (y := 3) (by decide) ?_
  refine lv_istore (lv' := [(5, .int 3), (4, .int 0), (3, .int 0), (2, .int 0), (0, .int 52), (1, .int wh)]) hx hb dX9_names_429 hl (by decide) rfl (fun ls hl => ?_)
  refine lv_iload hx hb dX9_names_431 (lv_at hl 0 rfl) ?_
  refine lv_iconst (v := 5) hx hb dX9_names_433 (by decide) ?_
  refine lv_icmp_ge (tgt := 441) hx hb dX9_names_434 (by decide) (fun c_ => absurd c_ (by decide)) (fun _ => ?_)
  refine lv_iconst (v := 1) hx hb dX9_names_437 (by decide) ?_
  refine lv_goto (tgt := 474) hx hb dX9_names_438 (by decide) ?_
  refine lv_istore_n (lv' := [(2, .int 1), (5, .int 3), (4, .int 0), (3, .int 0), (0, .int 52), (1, .int wh)]) hx hb dX9_names_474 rfl hl (by decide) rfl (fun ls hl => ?_)
  refine lv_iconst (v := 5) hx hb dX9_names_475 (by decide) ?_
  refine lv_istore_n (lv' := [(3, .int 5), (2, .int 1), (5, .int 3), (4, .int 0), (0, .int 52), (1, .int wh)]) hx hb dX9_names_476 rfl hl (by decide) rfl (fun ls hl => ?_)
  refine lv_iconst (v := 1) hx hb dX9_names_477 (by decide) ?_
  refine lv_istore (lv' := [(4, .int 1), (3, .int 5), (2, .int 1), (5, .int 3), (0, .int 52), (1, .int wh)]) hx hb dX9_names_478 hl (by decide) rfl (fun ls hl => ?_)
  refine lv_goto (tgt := 605) hx hb dX9_names_480 (by decide) ?_
  refine lv_iload_n hx hb dX9_names_605 rfl (lv_at hl 5 rfl) ?_
  refine lv_if_ne (tgt := 613) hx hb dX9_names_606 (by decide) (fun c_16 => ?_) (fun c_16 => ?_)
  · refine lv_iload_n hx hb dX9_names_613 rfl (lv_at hl 5 rfl) ?_
    refine lv_iconst (v := 1) hx hb dX9_names_614 (by decide) ?_
    refine lv_icmp_ne (tgt := 622) hx hb dX9_names_615 (by decide) (fun c_17 => ?_) (fun c_17 => ?_)
    · refine lv_iload hx hb dX9_names_622 (lv_at hl 0 rfl) ?_
      exact r_iret hC hr hlk hw () rfl ((if_neg c_16).trans (if_neg c_17)).symm (Nat.le_of_ble_eq_true rfl) (Nat.le_of_ble_eq_true rfl) dX9_names_624
    · refine lv_iload_n hx hb dX9_names_618 rfl (lv_at hl 1 rfl) ?_
      refine lv_goto (tgt := 624) hx hb dX9_names_619 (by decide) ?_
      exact r_iret hC hr hlk hw () rfl ((if_neg c_16).trans (if_pos c_17)).symm (Nat.le_of_ble_eq_true rfl) (Nat.le_of_ble_eq_true rfl) dX9_names_624
  · refine lv_iload_n hx hb dX9_names_609 rfl (lv_at hl 2 rfl) ?_
    refine lv_goto (tgt := 624) hx hb dX9_names_610 (by decide) ?_
    exact r_iret hC hr hlk hw () rfl (if_pos c_16).symm (Nat.le_of_ble_eq_true rfl) (Nat.le_of_ble_eq_true rfl) dX9_names_624

set_option maxHeartbeats 4000000 in
set_option maxRecDepth 100000 in
theorem c_X9_names_53 (l : Launch) {D : va_G} {q : Nat → ClassId} (w : wT) (sz : Nat) (wh : Int32) : Met l yX9_names wsX9_names (rmz 1 22) (va_Pc [.int 53, .int wh] (rPre D q w sz)) (va_Qi (fun (r : Int32) (u : Unit) => r = if wh = 0 then 1 else if wh = 1 then 5 else 1) (fun (u : Unit) tt => rPo D (rA w sz) w tt) (rA w sz)) 0 0 (rA w sz) := by
  refine r_start (cc := cX9_names) (maxL := 6) (ret := (some .int)) (by decide) rfl (Nat.le_of_ble_eq_true rfl) ?_
  intro p e s m below meth c ls hC hr hlk hnm hsz hw hl
  have hx := hC.1
  have hb := hC.2.1
  have hl : lv_has ls 6 [(0, .int 53), (1, .int wh)] := hl
  refine lv_iconst (v := 0) hx hb dX9_names_0 (by decide) ?_
  refine lv_istore_n (lv' := [(2, .int 0), (0, .int 53), (1, .int wh)]) hx hb dX9_names_1 rfl hl (by decide) rfl (fun ls hl => ?_)
  refine lv_iconst (v := 0) hx hb dX9_names_2 (by decide) ?_
  refine lv_istore_n (lv' := [(3, .int 0), (2, .int 0), (0, .int 53), (1, .int wh)]) hx hb dX9_names_3 rfl hl (by decide) rfl (fun ls hl => ?_)
  refine lv_iconst (v := 0) hx hb dX9_names_4 (by decide) ?_
  refine lv_istore (lv' := [(4, .int 0), (3, .int 0), (2, .int 0), (0, .int 53), (1, .int wh)]) hx hb dX9_names_5 hl (by decide) rfl (fun ls hl => ?_)
  refine lv_iload_n hx hb dX9_names_7 rfl (lv_at hl 3 rfl) ?_
  refine lv_iconst (v := 1) hx hb dX9_names_8 (by decide) ?_
  refine lv_icmp_eq (tgt := 24) hx hb dX9_names_9 (by decide) (fun c_ => absurd c_ (by decide)) (fun _ => ?_)
  refine lv_iload_n hx hb dX9_names_12 rfl (lv_at hl 3 rfl) ?_
  refine lv_bipush (v := 72) hx hb dX9_names_13 (by decide) ?_
  refine lv_icmp_eq (tgt := 24) hx hb dX9_names_15 (by decide) (fun c_ => absurd c_ (by decide)) (fun _ => ?_)
  refine lv_iload_n hx hb dX9_names_18 rfl (lv_at hl 3 rfl) ?_
  refine lv_bipush (v := 73) hx hb dX9_names_19 (by decide) ?_
  refine lv_icmp_ne (tgt := 29) hx hb dX9_names_21 (by decide) (fun _ => ?_) (fun c_ => absurd c_ (by decide))
  refine lv_iload_n hx hb dX9_names_29 rfl (lv_at hl 3 rfl) ?_
  refine lv_iconst (v := 2) hx hb dX9_names_30 (by decide) ?_
  refine lv_icmp_ne (tgt := 39) hx hb dX9_names_31 (by decide) (fun _ => ?_) (fun c_ => absurd c_ (by decide))
  refine lv_iload_n hx hb dX9_names_39 rfl (lv_at hl 3 rfl) ?_
  refine lv_iconst (v := 3) hx hb dX9_names_40 (by decide) ?_
  refine lv_icmp_ne (tgt := 51) hx hb dX9_names_41 (by decide) (fun _ => ?_) (fun c_ => absurd c_ (by decide))
  refine lv_iload_n hx hb dX9_names_51 rfl (lv_at hl 3 rfl) ?_
  refine lv_iconst (v := 4) hx hb dX9_names_52 (by decide) ?_
  refine lv_bipush (v := 8) hx hb dX9_names_53 (by decide) ?_
  refine r_ki hw (r_runS (rest := []) hC hw (c_X9_isIn l _ _ 53 4 8) 3 gX9_names_X9_isIn rfl rfl rfl (by decide +kernel) ⟨Nat.le_of_ble_eq_true rfl, Nat.le_of_ble_eq_true rfl⟩ rfl hl.1 rfl (Nat.le_of_ble_eq_true rfl) dX9_names_55 ⟨Nat.le_of_ble_eq_true rfl, Nat.le_of_ble_eq_true rfl⟩) (fun r_2 u_3 H locs h_1 hw => ?_)
  rw [if_neg (by decide)] at h_1
  subst h_1
  refine lv_if_ne (tgt := 67) hx hb dX9_names_58 (by decide) (fun c_ => absurd (by decide) c_) (fun _ => ?_)
  refine lv_iload_n hx hb dX9_names_61 rfl (lv_at hl 3 rfl) ?_
  refine lv_bipush (v := 25) hx hb dX9_names_62 (by decide) ?_
  refine lv_icmp_ne (tgt := 77) hx hb dX9_names_64 (by decide) (fun _ => ?_) (fun c_ => absurd c_ (by decide))
  refine lv_iload_n hx hb dX9_names_77 rfl (lv_at hl 3 rfl) ?_
  refine lv_bipush (v := 9) hx hb dX9_names_78 (by decide) ?_
  refine lv_bipush (v := 12) hx hb dX9_names_80 (by decide) ?_
  refine r_ki hw (r_runS (rest := []) hC hw (c_X9_isIn l _ _ 53 9 12) 3 gX9_names_X9_isIn rfl rfl rfl (by decide +kernel) ⟨Nat.le_of_ble_eq_true rfl, Nat.le_of_ble_eq_true rfl⟩ rfl hl.1 rfl (Nat.le_of_ble_eq_true rfl) dX9_names_82 ⟨Nat.le_of_ble_eq_true rfl, Nat.le_of_ble_eq_true rfl⟩) (fun r_5 u_6 H locs h_4 hw => ?_)
  rw [if_neg (by decide)] at h_4
  subst h_4
  refine lv_if_eq (tgt := 98) hx hb dX9_names_85 (by decide) (fun _ => ?_) (fun c_ => absurd (by decide) c_)
  refine lv_iload_n hx hb dX9_names_98 rfl (lv_at hl 3 rfl) ?_
  refine lv_bipush (v := 13) hx hb dX9_names_99 (by decide) ?_
  refine lv_bipush (v := 24) hx hb dX9_names_101 (by decide) ?_
  refine r_ki hw (r_runS (rest := []) hC hw (c_X9_isIn l _ _ 53 13 24) 3 gX9_names_X9_isIn rfl rfl rfl (by decide +kernel) ⟨Nat.le_of_ble_eq_true rfl, Nat.le_of_ble_eq_true rfl⟩ rfl hl.1 rfl (Nat.le_of_ble_eq_true rfl) dX9_names_103 ⟨Nat.le_of_ble_eq_true rfl, Nat.le_of_ble_eq_true rfl⟩) (fun r_8 u_9 H locs h_7 hw => ?_)
  rw [if_neg (by decide)] at h_7
  subst h_7
  refine lv_if_ne (tgt := 115) hx hb dX9_names_106 (by decide) (fun c_ => absurd (by decide) c_) (fun _ => ?_)
  refine lv_iload_n hx hb dX9_names_109 rfl (lv_at hl 3 rfl) ?_
  refine lv_bipush (v := 26) hx hb dX9_names_110 (by decide) ?_
  refine lv_icmp_ne (tgt := 270) hx hb dX9_names_112 (by decide) (fun _ => ?_) (fun c_ => absurd c_ (by decide))
  refine lv_iload_n hx hb dX9_names_270 rfl (lv_at hl 3 rfl) ?_
  refine lv_bipush (v := 27) hx hb dX9_names_271 (by decide) ?_
  refine lv_icmp_eq (tgt := 282) hx hb dX9_names_273 (by decide) (fun c_ => absurd c_ (by decide)) (fun _ => ?_)
  refine lv_iload_n hx hb dX9_names_276 rfl (lv_at hl 3 rfl) ?_
  refine lv_bipush (v := 29) hx hb dX9_names_277 (by decide) ?_
  refine lv_icmp_ne (tgt := 288) hx hb dX9_names_279 (by decide) (fun _ => ?_) (fun c_ => absurd c_ (by decide))
  refine lv_iload_n hx hb dX9_names_288 rfl (lv_at hl 3 rfl) ?_
  refine lv_bipush (v := 28) hx hb dX9_names_289 (by decide) ?_
  refine lv_icmp_ne (tgt := 302) hx hb dX9_names_291 (by decide) (fun _ => ?_) (fun c_ => absurd c_ (by decide))
  refine lv_iload_n hx hb dX9_names_302 rfl (lv_at hl 3 rfl) ?_
  refine lv_bipush (v := 31) hx hb dX9_names_303 (by decide) ?_
  refine lv_bipush (v := 38) hx hb dX9_names_305 (by decide) ?_
  refine r_ki hw (r_runS (rest := []) hC hw (c_X9_isIn l _ _ 53 31 38) 3 gX9_names_X9_isIn rfl rfl rfl (by decide +kernel) ⟨Nat.le_of_ble_eq_true rfl, Nat.le_of_ble_eq_true rfl⟩ rfl hl.1 rfl (Nat.le_of_ble_eq_true rfl) dX9_names_307 ⟨Nat.le_of_ble_eq_true rfl, Nat.le_of_ble_eq_true rfl⟩) (fun r_11 u_12 H locs h_10 hw => ?_)
  rw [if_neg (by decide)] at h_10
  subst h_10
  refine lv_if_eq (tgt := 411) hx hb dX9_names_310 (by decide) (fun _ => ?_) (fun c_ => absurd (by decide) c_)
  refine lv_iload_n hx hb dX9_names_411 rfl (lv_at hl 3 rfl) ?_
  refine lv_bipush (v := 39) hx hb dX9_names_412 (by decide) ?_
  refine lv_bipush (v := 58) hx hb dX9_names_414 (by decide) ?_
  refine r_ki hw (r_runS (rest := []) hC hw (c_X9_isIn l _ _ 53 39 58) 3 gX9_names_X9_isIn rfl rfl rfl (by decide +kernel) ⟨Nat.le_of_ble_eq_true rfl, Nat.le_of_ble_eq_true rfl⟩ rfl hl.1 rfl (Nat.le_of_ble_eq_true rfl) dX9_names_416 ⟨Nat.le_of_ble_eq_true rfl, Nat.le_of_ble_eq_true rfl⟩) (fun r_14 u_15 H locs h_13 hw => ?_)
  rw [if_pos (by decide)] at h_13
  subst h_13
  refine lv_if_eq (tgt := 483) hx hb dX9_names_419 (by decide) (fun c_ => absurd c_ (by decide)) (fun _ => ?_)
  refine lv_iload_n hx hb dX9_names_422 rfl (lv_at hl 3 rfl) ?_
  refine lv_bipush (v := 39) hx hb dX9_names_423 (by decide) ?_
  refine lv_isub hx hb dX9_names_425 ?_
  refine r_topi (x := 53 - 39) (y := 14) (by decide) ?_
  refine lv_bipush (v := 10) hx hb dX9_names_426 (by decide) ?_
  refine lv_irem hx hb dX9_names_428 (by decide) ?_
  refine r_topi (x := 14 - 14 / 10 * 10) (y := 4) (by decide) ?_
  refine lv_istore (lv' := [(5, .int 4), (4, .int 0), (3, .int 0), (2, .int 0), (0, .int 53), (1, .int wh)]) hx hb dX9_names_429 hl (by decide) rfl (fun ls hl => ?_)
  refine lv_iload hx hb dX9_names_431 (lv_at hl 0 rfl) ?_
  refine lv_iconst (v := 5) hx hb dX9_names_433 (by decide) ?_
  refine lv_icmp_ge (tgt := 441) hx hb dX9_names_434 (by decide) (fun c_ => absurd c_ (by decide)) (fun _ => ?_)
  refine lv_iconst (v := 1) hx hb dX9_names_437 (by decide) ?_
  refine lv_goto (tgt := 474) hx hb dX9_names_438 (by decide) ?_
  refine lv_istore_n (lv' := [(2, .int 1), (5, .int 4), (4, .int 0), (3, .int 0), (0, .int 53), (1, .int wh)]) hx hb dX9_names_474 rfl hl (by decide) rfl (fun ls hl => ?_)
  refine lv_iconst (v := 5) hx hb dX9_names_475 (by decide) ?_
  refine lv_istore_n (lv' := [(3, .int 5), (2, .int 1), (5, .int 4), (4, .int 0), (0, .int 53), (1, .int wh)]) hx hb dX9_names_476 rfl hl (by decide) rfl (fun ls hl => ?_)
  refine lv_iconst (v := 1) hx hb dX9_names_477 (by decide) ?_
  refine lv_istore (lv' := [(4, .int 1), (3, .int 5), (2, .int 1), (5, .int 4), (0, .int 53), (1, .int wh)]) hx hb dX9_names_478 hl (by decide) rfl (fun ls hl => ?_)
  refine lv_goto (tgt := 605) hx hb dX9_names_480 (by decide) ?_
  refine lv_iload_n hx hb dX9_names_605 rfl (lv_at hl 5 rfl) ?_
  refine lv_if_ne (tgt := 613) hx hb dX9_names_606 (by decide) (fun c_16 => ?_) (fun c_16 => ?_)
  · refine lv_iload_n hx hb dX9_names_613 rfl (lv_at hl 5 rfl) ?_
    refine lv_iconst (v := 1) hx hb dX9_names_614 (by decide) ?_
    refine lv_icmp_ne (tgt := 622) hx hb dX9_names_615 (by decide) (fun c_17 => ?_) (fun c_17 => ?_)
    · refine lv_iload hx hb dX9_names_622 (lv_at hl 0 rfl) ?_
      exact r_iret hC hr hlk hw () rfl ((if_neg c_16).trans (if_neg c_17)).symm (Nat.le_of_ble_eq_true rfl) (Nat.le_of_ble_eq_true rfl) dX9_names_624
    · refine lv_iload_n hx hb dX9_names_618 rfl (lv_at hl 1 rfl) ?_
      refine lv_goto (tgt := 624) hx hb dX9_names_619 (by decide) ?_
      exact r_iret hC hr hlk hw () rfl ((if_neg c_16).trans (if_pos c_17)).symm (Nat.le_of_ble_eq_true rfl) (Nat.le_of_ble_eq_true rfl) dX9_names_624
  · refine lv_iload_n hx hb dX9_names_609 rfl (lv_at hl 2 rfl) ?_
    refine lv_goto (tgt := 624) hx hb dX9_names_610 (by decide) ?_
    exact r_iret hC hr hlk hw () rfl (if_pos c_16).symm (Nat.le_of_ble_eq_true rfl) (Nat.le_of_ble_eq_true rfl) dX9_names_624

set_option maxHeartbeats 4000000 in
set_option maxRecDepth 100000 in
theorem c_X9_names_54 (l : Launch) {D : va_G} {q : Nat → ClassId} (w : wT) (sz : Nat) (wh : Int32) : Met l yX9_names wsX9_names (rmz 1 22) (va_Pc [.int 54, .int wh] (rPre D q w sz)) (va_Qi (fun (r : Int32) (u : Unit) => r = if wh = 0 then 2 else if wh = 1 then 5 else 1) (fun (u : Unit) tt => rPo D (rA w sz) w tt) (rA w sz)) 0 0 (rA w sz) := by
  refine r_start (cc := cX9_names) (maxL := 6) (ret := (some .int)) (by decide) rfl (Nat.le_of_ble_eq_true rfl) ?_
  intro p e s m below meth c ls hC hr hlk hnm hsz hw hl
  have hx := hC.1
  have hb := hC.2.1
  have hl : lv_has ls 6 [(0, .int 54), (1, .int wh)] := hl
  refine lv_iconst (v := 0) hx hb dX9_names_0 (by decide) ?_
  refine lv_istore_n (lv' := [(2, .int 0), (0, .int 54), (1, .int wh)]) hx hb dX9_names_1 rfl hl (by decide) rfl (fun ls hl => ?_)
  refine lv_iconst (v := 0) hx hb dX9_names_2 (by decide) ?_
  refine lv_istore_n (lv' := [(3, .int 0), (2, .int 0), (0, .int 54), (1, .int wh)]) hx hb dX9_names_3 rfl hl (by decide) rfl (fun ls hl => ?_)
  refine lv_iconst (v := 0) hx hb dX9_names_4 (by decide) ?_
  refine lv_istore (lv' := [(4, .int 0), (3, .int 0), (2, .int 0), (0, .int 54), (1, .int wh)]) hx hb dX9_names_5 hl (by decide) rfl (fun ls hl => ?_)
  refine lv_iload_n hx hb dX9_names_7 rfl (lv_at hl 3 rfl) ?_
  refine lv_iconst (v := 1) hx hb dX9_names_8 (by decide) ?_
  refine lv_icmp_eq (tgt := 24) hx hb dX9_names_9 (by decide) (fun c_ => absurd c_ (by decide)) (fun _ => ?_)
  refine lv_iload_n hx hb dX9_names_12 rfl (lv_at hl 3 rfl) ?_
  refine lv_bipush (v := 72) hx hb dX9_names_13 (by decide) ?_
  refine lv_icmp_eq (tgt := 24) hx hb dX9_names_15 (by decide) (fun c_ => absurd c_ (by decide)) (fun _ => ?_)
  refine lv_iload_n hx hb dX9_names_18 rfl (lv_at hl 3 rfl) ?_
  refine lv_bipush (v := 73) hx hb dX9_names_19 (by decide) ?_
  refine lv_icmp_ne (tgt := 29) hx hb dX9_names_21 (by decide) (fun _ => ?_) (fun c_ => absurd c_ (by decide))
  refine lv_iload_n hx hb dX9_names_29 rfl (lv_at hl 3 rfl) ?_
  refine lv_iconst (v := 2) hx hb dX9_names_30 (by decide) ?_
  refine lv_icmp_ne (tgt := 39) hx hb dX9_names_31 (by decide) (fun _ => ?_) (fun c_ => absurd c_ (by decide))
  refine lv_iload_n hx hb dX9_names_39 rfl (lv_at hl 3 rfl) ?_
  refine lv_iconst (v := 3) hx hb dX9_names_40 (by decide) ?_
  refine lv_icmp_ne (tgt := 51) hx hb dX9_names_41 (by decide) (fun _ => ?_) (fun c_ => absurd c_ (by decide))
  refine lv_iload_n hx hb dX9_names_51 rfl (lv_at hl 3 rfl) ?_
  refine lv_iconst (v := 4) hx hb dX9_names_52 (by decide) ?_
  refine lv_bipush (v := 8) hx hb dX9_names_53 (by decide) ?_
  refine r_ki hw (r_runS (rest := []) hC hw (c_X9_isIn l _ _ 54 4 8) 3 gX9_names_X9_isIn rfl rfl rfl (by decide +kernel) ⟨Nat.le_of_ble_eq_true rfl, Nat.le_of_ble_eq_true rfl⟩ rfl hl.1 rfl (Nat.le_of_ble_eq_true rfl) dX9_names_55 ⟨Nat.le_of_ble_eq_true rfl, Nat.le_of_ble_eq_true rfl⟩) (fun r_2 u_3 H locs h_1 hw => ?_)
  rw [if_neg (by decide)] at h_1
  subst h_1
  refine lv_if_ne (tgt := 67) hx hb dX9_names_58 (by decide) (fun c_ => absurd (by decide) c_) (fun _ => ?_)
  refine lv_iload_n hx hb dX9_names_61 rfl (lv_at hl 3 rfl) ?_
  refine lv_bipush (v := 25) hx hb dX9_names_62 (by decide) ?_
  refine lv_icmp_ne (tgt := 77) hx hb dX9_names_64 (by decide) (fun _ => ?_) (fun c_ => absurd c_ (by decide))
  refine lv_iload_n hx hb dX9_names_77 rfl (lv_at hl 3 rfl) ?_
  refine lv_bipush (v := 9) hx hb dX9_names_78 (by decide) ?_
  refine lv_bipush (v := 12) hx hb dX9_names_80 (by decide) ?_
  refine r_ki hw (r_runS (rest := []) hC hw (c_X9_isIn l _ _ 54 9 12) 3 gX9_names_X9_isIn rfl rfl rfl (by decide +kernel) ⟨Nat.le_of_ble_eq_true rfl, Nat.le_of_ble_eq_true rfl⟩ rfl hl.1 rfl (Nat.le_of_ble_eq_true rfl) dX9_names_82 ⟨Nat.le_of_ble_eq_true rfl, Nat.le_of_ble_eq_true rfl⟩) (fun r_5 u_6 H locs h_4 hw => ?_)
  rw [if_neg (by decide)] at h_4
  subst h_4
  refine lv_if_eq (tgt := 98) hx hb dX9_names_85 (by decide) (fun _ => ?_) (fun c_ => absurd (by decide) c_)
  refine lv_iload_n hx hb dX9_names_98 rfl (lv_at hl 3 rfl) ?_
  refine lv_bipush (v := 13) hx hb dX9_names_99 (by decide) ?_
  refine lv_bipush (v := 24) hx hb dX9_names_101 (by decide) ?_
  refine r_ki hw (r_runS (rest := []) hC hw (c_X9_isIn l _ _ 54 13 24) 3 gX9_names_X9_isIn rfl rfl rfl (by decide +kernel) ⟨Nat.le_of_ble_eq_true rfl, Nat.le_of_ble_eq_true rfl⟩ rfl hl.1 rfl (Nat.le_of_ble_eq_true rfl) dX9_names_103 ⟨Nat.le_of_ble_eq_true rfl, Nat.le_of_ble_eq_true rfl⟩) (fun r_8 u_9 H locs h_7 hw => ?_)
  rw [if_neg (by decide)] at h_7
  subst h_7
  refine lv_if_ne (tgt := 115) hx hb dX9_names_106 (by decide) (fun c_ => absurd (by decide) c_) (fun _ => ?_)
  refine lv_iload_n hx hb dX9_names_109 rfl (lv_at hl 3 rfl) ?_
  refine lv_bipush (v := 26) hx hb dX9_names_110 (by decide) ?_
  refine lv_icmp_ne (tgt := 270) hx hb dX9_names_112 (by decide) (fun _ => ?_) (fun c_ => absurd c_ (by decide))
  refine lv_iload_n hx hb dX9_names_270 rfl (lv_at hl 3 rfl) ?_
  refine lv_bipush (v := 27) hx hb dX9_names_271 (by decide) ?_
  refine lv_icmp_eq (tgt := 282) hx hb dX9_names_273 (by decide) (fun c_ => absurd c_ (by decide)) (fun _ => ?_)
  refine lv_iload_n hx hb dX9_names_276 rfl (lv_at hl 3 rfl) ?_
  refine lv_bipush (v := 29) hx hb dX9_names_277 (by decide) ?_
  refine lv_icmp_ne (tgt := 288) hx hb dX9_names_279 (by decide) (fun _ => ?_) (fun c_ => absurd c_ (by decide))
  refine lv_iload_n hx hb dX9_names_288 rfl (lv_at hl 3 rfl) ?_
  refine lv_bipush (v := 28) hx hb dX9_names_289 (by decide) ?_
  refine lv_icmp_ne (tgt := 302) hx hb dX9_names_291 (by decide) (fun _ => ?_) (fun c_ => absurd c_ (by decide))
  refine lv_iload_n hx hb dX9_names_302 rfl (lv_at hl 3 rfl) ?_
  refine lv_bipush (v := 31) hx hb dX9_names_303 (by decide) ?_
  refine lv_bipush (v := 38) hx hb dX9_names_305 (by decide) ?_
  refine r_ki hw (r_runS (rest := []) hC hw (c_X9_isIn l _ _ 54 31 38) 3 gX9_names_X9_isIn rfl rfl rfl (by decide +kernel) ⟨Nat.le_of_ble_eq_true rfl, Nat.le_of_ble_eq_true rfl⟩ rfl hl.1 rfl (Nat.le_of_ble_eq_true rfl) dX9_names_307 ⟨Nat.le_of_ble_eq_true rfl, Nat.le_of_ble_eq_true rfl⟩) (fun r_11 u_12 H locs h_10 hw => ?_)
  rw [if_neg (by decide)] at h_10
  subst h_10
  refine lv_if_eq (tgt := 411) hx hb dX9_names_310 (by decide) (fun _ => ?_) (fun c_ => absurd (by decide) c_)
  refine lv_iload_n hx hb dX9_names_411 rfl (lv_at hl 3 rfl) ?_
  refine lv_bipush (v := 39) hx hb dX9_names_412 (by decide) ?_
  refine lv_bipush (v := 58) hx hb dX9_names_414 (by decide) ?_
  refine r_ki hw (r_runS (rest := []) hC hw (c_X9_isIn l _ _ 54 39 58) 3 gX9_names_X9_isIn rfl rfl rfl (by decide +kernel) ⟨Nat.le_of_ble_eq_true rfl, Nat.le_of_ble_eq_true rfl⟩ rfl hl.1 rfl (Nat.le_of_ble_eq_true rfl) dX9_names_416 ⟨Nat.le_of_ble_eq_true rfl, Nat.le_of_ble_eq_true rfl⟩) (fun r_14 u_15 H locs h_13 hw => ?_)
  rw [if_pos (by decide)] at h_13
  subst h_13
  refine lv_if_eq (tgt := 483) hx hb dX9_names_419 (by decide) (fun c_ => absurd c_ (by decide)) (fun _ => ?_)
  refine lv_iload_n hx hb dX9_names_422 rfl (lv_at hl 3 rfl) ?_
  refine lv_bipush (v := 39) hx hb dX9_names_423 (by decide) ?_
  refine lv_isub hx hb dX9_names_425 ?_
  refine r_topi (x := 54 - 39) (y := 15) (by decide) ?_
  refine lv_bipush (v := 10) hx hb dX9_names_426 (by decide) ?_
  refine lv_irem hx hb dX9_names_428 (by decide) ?_
  refine r_topi (x := 15 - 15 / 10 * 10) (y := 5) (by decide) ?_
  refine lv_istore (lv' := [(5, .int 5), (4, .int 0), (3, .int 0), (2, .int 0), (0, .int 54), (1, .int wh)]) hx hb dX9_names_429 hl (by decide) rfl (fun ls hl => ?_)
  refine lv_iload hx hb dX9_names_431 (lv_at hl 0 rfl) ?_
  refine lv_iconst (v := 5) hx hb dX9_names_433 (by decide) ?_
  refine lv_icmp_ge (tgt := 441) hx hb dX9_names_434 (by decide) (fun _ => ?_) (fun c_ => absurd (by decide) c_)
  refine lv_iload hx hb dX9_names_441 (lv_at hl 0 rfl) ?_
  refine lv_iconst (v := 5) hx hb dX9_names_443 (by decide) ?_
  refine lv_icmp_ne (tgt := 451) hx hb dX9_names_444 (by decide) (fun c_ => absurd (by decide) c_) (fun _ => ?_)
  refine lv_iconst (v := 2) hx hb dX9_names_447 (by decide) ?_
  refine lv_goto (tgt := 474) hx hb dX9_names_448 (by decide) ?_
  refine lv_istore_n (lv' := [(2, .int 2), (5, .int 5), (4, .int 0), (3, .int 0), (0, .int 54), (1, .int wh)]) hx hb dX9_names_474 rfl hl (by decide) rfl (fun ls hl => ?_)
  refine lv_iconst (v := 5) hx hb dX9_names_475 (by decide) ?_
  refine lv_istore_n (lv' := [(3, .int 5), (2, .int 2), (5, .int 5), (4, .int 0), (0, .int 54), (1, .int wh)]) hx hb dX9_names_476 rfl hl (by decide) rfl (fun ls hl => ?_)
  refine lv_iconst (v := 1) hx hb dX9_names_477 (by decide) ?_
  refine lv_istore (lv' := [(4, .int 1), (3, .int 5), (2, .int 2), (5, .int 5), (0, .int 54), (1, .int wh)]) hx hb dX9_names_478 hl (by decide) rfl (fun ls hl => ?_)
  refine lv_goto (tgt := 605) hx hb dX9_names_480 (by decide) ?_
  refine lv_iload_n hx hb dX9_names_605 rfl (lv_at hl 5 rfl) ?_
  refine lv_if_ne (tgt := 613) hx hb dX9_names_606 (by decide) (fun c_16 => ?_) (fun c_16 => ?_)
  · refine lv_iload_n hx hb dX9_names_613 rfl (lv_at hl 5 rfl) ?_
    refine lv_iconst (v := 1) hx hb dX9_names_614 (by decide) ?_
    refine lv_icmp_ne (tgt := 622) hx hb dX9_names_615 (by decide) (fun c_17 => ?_) (fun c_17 => ?_)
    · refine lv_iload hx hb dX9_names_622 (lv_at hl 0 rfl) ?_
      exact r_iret hC hr hlk hw () rfl ((if_neg c_16).trans (if_neg c_17)).symm (Nat.le_of_ble_eq_true rfl) (Nat.le_of_ble_eq_true rfl) dX9_names_624
    · refine lv_iload_n hx hb dX9_names_618 rfl (lv_at hl 1 rfl) ?_
      refine lv_goto (tgt := 624) hx hb dX9_names_619 (by decide) ?_
      exact r_iret hC hr hlk hw () rfl ((if_neg c_16).trans (if_pos c_17)).symm (Nat.le_of_ble_eq_true rfl) (Nat.le_of_ble_eq_true rfl) dX9_names_624
  · refine lv_iload_n hx hb dX9_names_609 rfl (lv_at hl 2 rfl) ?_
    refine lv_goto (tgt := 624) hx hb dX9_names_610 (by decide) ?_
    exact r_iret hC hr hlk hw () rfl (if_pos c_16).symm (Nat.le_of_ble_eq_true rfl) (Nat.le_of_ble_eq_true rfl) dX9_names_624

set_option maxHeartbeats 4000000 in
set_option maxRecDepth 100000 in
theorem c_X9_names_55 (l : Launch) {D : va_G} {q : Nat → ClassId} (w : wT) (sz : Nat) (wh : Int32) : Met l yX9_names wsX9_names (rmz 1 22) (va_Pc [.int 55, .int wh] (rPre D q w sz)) (va_Qi (fun (r : Int32) (u : Unit) => r = if wh = 0 then 3 else if wh = 1 then 5 else 1) (fun (u : Unit) tt => rPo D (rA w sz) w tt) (rA w sz)) 0 0 (rA w sz) := by
  refine r_start (cc := cX9_names) (maxL := 6) (ret := (some .int)) (by decide) rfl (Nat.le_of_ble_eq_true rfl) ?_
  intro p e s m below meth c ls hC hr hlk hnm hsz hw hl
  have hx := hC.1
  have hb := hC.2.1
  have hl : lv_has ls 6 [(0, .int 55), (1, .int wh)] := hl
  refine lv_iconst (v := 0) hx hb dX9_names_0 (by decide) ?_
  refine lv_istore_n (lv' := [(2, .int 0), (0, .int 55), (1, .int wh)]) hx hb dX9_names_1 rfl hl (by decide) rfl (fun ls hl => ?_)
  refine lv_iconst (v := 0) hx hb dX9_names_2 (by decide) ?_
  refine lv_istore_n (lv' := [(3, .int 0), (2, .int 0), (0, .int 55), (1, .int wh)]) hx hb dX9_names_3 rfl hl (by decide) rfl (fun ls hl => ?_)
  refine lv_iconst (v := 0) hx hb dX9_names_4 (by decide) ?_
  refine lv_istore (lv' := [(4, .int 0), (3, .int 0), (2, .int 0), (0, .int 55), (1, .int wh)]) hx hb dX9_names_5 hl (by decide) rfl (fun ls hl => ?_)
  refine lv_iload_n hx hb dX9_names_7 rfl (lv_at hl 3 rfl) ?_
  refine lv_iconst (v := 1) hx hb dX9_names_8 (by decide) ?_
  refine lv_icmp_eq (tgt := 24) hx hb dX9_names_9 (by decide) (fun c_ => absurd c_ (by decide)) (fun _ => ?_)
  refine lv_iload_n hx hb dX9_names_12 rfl (lv_at hl 3 rfl) ?_
  refine lv_bipush (v := 72) hx hb dX9_names_13 (by decide) ?_
  refine lv_icmp_eq (tgt := 24) hx hb dX9_names_15 (by decide) (fun c_ => absurd c_ (by decide)) (fun _ => ?_)
  refine lv_iload_n hx hb dX9_names_18 rfl (lv_at hl 3 rfl) ?_
  refine lv_bipush (v := 73) hx hb dX9_names_19 (by decide) ?_
  refine lv_icmp_ne (tgt := 29) hx hb dX9_names_21 (by decide) (fun _ => ?_) (fun c_ => absurd c_ (by decide))
  refine lv_iload_n hx hb dX9_names_29 rfl (lv_at hl 3 rfl) ?_
  refine lv_iconst (v := 2) hx hb dX9_names_30 (by decide) ?_
  refine lv_icmp_ne (tgt := 39) hx hb dX9_names_31 (by decide) (fun _ => ?_) (fun c_ => absurd c_ (by decide))
  refine lv_iload_n hx hb dX9_names_39 rfl (lv_at hl 3 rfl) ?_
  refine lv_iconst (v := 3) hx hb dX9_names_40 (by decide) ?_
  refine lv_icmp_ne (tgt := 51) hx hb dX9_names_41 (by decide) (fun _ => ?_) (fun c_ => absurd c_ (by decide))
  refine lv_iload_n hx hb dX9_names_51 rfl (lv_at hl 3 rfl) ?_
  refine lv_iconst (v := 4) hx hb dX9_names_52 (by decide) ?_
  refine lv_bipush (v := 8) hx hb dX9_names_53 (by decide) ?_
  refine r_ki hw (r_runS (rest := []) hC hw (c_X9_isIn l _ _ 55 4 8) 3 gX9_names_X9_isIn rfl rfl rfl (by decide +kernel) ⟨Nat.le_of_ble_eq_true rfl, Nat.le_of_ble_eq_true rfl⟩ rfl hl.1 rfl (Nat.le_of_ble_eq_true rfl) dX9_names_55 ⟨Nat.le_of_ble_eq_true rfl, Nat.le_of_ble_eq_true rfl⟩) (fun r_2 u_3 H locs h_1 hw => ?_)
  rw [if_neg (by decide)] at h_1
  subst h_1
  refine lv_if_ne (tgt := 67) hx hb dX9_names_58 (by decide) (fun c_ => absurd (by decide) c_) (fun _ => ?_)
  refine lv_iload_n hx hb dX9_names_61 rfl (lv_at hl 3 rfl) ?_
  refine lv_bipush (v := 25) hx hb dX9_names_62 (by decide) ?_
  refine lv_icmp_ne (tgt := 77) hx hb dX9_names_64 (by decide) (fun _ => ?_) (fun c_ => absurd c_ (by decide))
  refine lv_iload_n hx hb dX9_names_77 rfl (lv_at hl 3 rfl) ?_
  refine lv_bipush (v := 9) hx hb dX9_names_78 (by decide) ?_
  refine lv_bipush (v := 12) hx hb dX9_names_80 (by decide) ?_
  refine r_ki hw (r_runS (rest := []) hC hw (c_X9_isIn l _ _ 55 9 12) 3 gX9_names_X9_isIn rfl rfl rfl (by decide +kernel) ⟨Nat.le_of_ble_eq_true rfl, Nat.le_of_ble_eq_true rfl⟩ rfl hl.1 rfl (Nat.le_of_ble_eq_true rfl) dX9_names_82 ⟨Nat.le_of_ble_eq_true rfl, Nat.le_of_ble_eq_true rfl⟩) (fun r_5 u_6 H locs h_4 hw => ?_)
  rw [if_neg (by decide)] at h_4
  subst h_4
  refine lv_if_eq (tgt := 98) hx hb dX9_names_85 (by decide) (fun _ => ?_) (fun c_ => absurd (by decide) c_)
  refine lv_iload_n hx hb dX9_names_98 rfl (lv_at hl 3 rfl) ?_
  refine lv_bipush (v := 13) hx hb dX9_names_99 (by decide) ?_
  refine lv_bipush (v := 24) hx hb dX9_names_101 (by decide) ?_
  refine r_ki hw (r_runS (rest := []) hC hw (c_X9_isIn l _ _ 55 13 24) 3 gX9_names_X9_isIn rfl rfl rfl (by decide +kernel) ⟨Nat.le_of_ble_eq_true rfl, Nat.le_of_ble_eq_true rfl⟩ rfl hl.1 rfl (Nat.le_of_ble_eq_true rfl) dX9_names_103 ⟨Nat.le_of_ble_eq_true rfl, Nat.le_of_ble_eq_true rfl⟩) (fun r_8 u_9 H locs h_7 hw => ?_)
  rw [if_neg (by decide)] at h_7
  subst h_7
  refine lv_if_ne (tgt := 115) hx hb dX9_names_106 (by decide) (fun c_ => absurd (by decide) c_) (fun _ => ?_)
  refine lv_iload_n hx hb dX9_names_109 rfl (lv_at hl 3 rfl) ?_
  refine lv_bipush (v := 26) hx hb dX9_names_110 (by decide) ?_
  refine lv_icmp_ne (tgt := 270) hx hb dX9_names_112 (by decide) (fun _ => ?_) (fun c_ => absurd c_ (by decide))
  refine lv_iload_n hx hb dX9_names_270 rfl (lv_at hl 3 rfl) ?_
  refine lv_bipush (v := 27) hx hb dX9_names_271 (by decide) ?_
  refine lv_icmp_eq (tgt := 282) hx hb dX9_names_273 (by decide) (fun c_ => absurd c_ (by decide)) (fun _ => ?_)
  refine lv_iload_n hx hb dX9_names_276 rfl (lv_at hl 3 rfl) ?_
  refine lv_bipush (v := 29) hx hb dX9_names_277 (by decide) ?_
  refine lv_icmp_ne (tgt := 288) hx hb dX9_names_279 (by decide) (fun _ => ?_) (fun c_ => absurd c_ (by decide))
  refine lv_iload_n hx hb dX9_names_288 rfl (lv_at hl 3 rfl) ?_
  refine lv_bipush (v := 28) hx hb dX9_names_289 (by decide) ?_
  refine lv_icmp_ne (tgt := 302) hx hb dX9_names_291 (by decide) (fun _ => ?_) (fun c_ => absurd c_ (by decide))
  refine lv_iload_n hx hb dX9_names_302 rfl (lv_at hl 3 rfl) ?_
  refine lv_bipush (v := 31) hx hb dX9_names_303 (by decide) ?_
  refine lv_bipush (v := 38) hx hb dX9_names_305 (by decide) ?_
  refine r_ki hw (r_runS (rest := []) hC hw (c_X9_isIn l _ _ 55 31 38) 3 gX9_names_X9_isIn rfl rfl rfl (by decide +kernel) ⟨Nat.le_of_ble_eq_true rfl, Nat.le_of_ble_eq_true rfl⟩ rfl hl.1 rfl (Nat.le_of_ble_eq_true rfl) dX9_names_307 ⟨Nat.le_of_ble_eq_true rfl, Nat.le_of_ble_eq_true rfl⟩) (fun r_11 u_12 H locs h_10 hw => ?_)
  rw [if_neg (by decide)] at h_10
  subst h_10
  refine lv_if_eq (tgt := 411) hx hb dX9_names_310 (by decide) (fun _ => ?_) (fun c_ => absurd (by decide) c_)
  refine lv_iload_n hx hb dX9_names_411 rfl (lv_at hl 3 rfl) ?_
  refine lv_bipush (v := 39) hx hb dX9_names_412 (by decide) ?_
  refine lv_bipush (v := 58) hx hb dX9_names_414 (by decide) ?_
  refine r_ki hw (r_runS (rest := []) hC hw (c_X9_isIn l _ _ 55 39 58) 3 gX9_names_X9_isIn rfl rfl rfl (by decide +kernel) ⟨Nat.le_of_ble_eq_true rfl, Nat.le_of_ble_eq_true rfl⟩ rfl hl.1 rfl (Nat.le_of_ble_eq_true rfl) dX9_names_416 ⟨Nat.le_of_ble_eq_true rfl, Nat.le_of_ble_eq_true rfl⟩) (fun r_14 u_15 H locs h_13 hw => ?_)
  rw [if_pos (by decide)] at h_13
  subst h_13
  refine lv_if_eq (tgt := 483) hx hb dX9_names_419 (by decide) (fun c_ => absurd c_ (by decide)) (fun _ => ?_)
  refine lv_iload_n hx hb dX9_names_422 rfl (lv_at hl 3 rfl) ?_
  refine lv_bipush (v := 39) hx hb dX9_names_423 (by decide) ?_
  refine lv_isub hx hb dX9_names_425 ?_
  refine r_topi (x := 55 - 39) (y := 16) (by decide) ?_
  refine lv_bipush (v := 10) hx hb dX9_names_426 (by decide) ?_
  refine lv_irem hx hb dX9_names_428 (by decide) ?_
  refine r_topi (x := 16 - 16 / 10 * 10) (y := 6) (by decide) ?_
  refine lv_istore (lv' := [(5, .int 6), (4, .int 0), (3, .int 0), (2, .int 0), (0, .int 55), (1, .int wh)]) hx hb dX9_names_429 hl (by decide) rfl (fun ls hl => ?_)
  refine lv_iload hx hb dX9_names_431 (lv_at hl 0 rfl) ?_
  refine lv_iconst (v := 5) hx hb dX9_names_433 (by decide) ?_
  refine lv_icmp_ge (tgt := 441) hx hb dX9_names_434 (by decide) (fun _ => ?_) (fun c_ => absurd (by decide) c_)
  refine lv_iload hx hb dX9_names_441 (lv_at hl 0 rfl) ?_
  refine lv_iconst (v := 5) hx hb dX9_names_443 (by decide) ?_
  refine lv_icmp_ne (tgt := 451) hx hb dX9_names_444 (by decide) (fun _ => ?_) (fun c_ => absurd c_ (by decide))
  refine lv_iload hx hb dX9_names_451 (lv_at hl 0 rfl) ?_
  refine lv_bipush (v := 6) hx hb dX9_names_453 (by decide) ?_
  refine lv_icmp_ne (tgt := 462) hx hb dX9_names_455 (by decide) (fun c_ => absurd (by decide) c_) (fun _ => ?_)
  refine lv_iconst (v := 3) hx hb dX9_names_458 (by decide) ?_
  refine lv_goto (tgt := 474) hx hb dX9_names_459 (by decide) ?_
  refine lv_istore_n (lv' := [(2, .int 3), (5, .int 6), (4, .int 0), (3, .int 0), (0, .int 55), (1, .int wh)]) hx hb dX9_names_474 rfl hl (by decide) rfl (fun ls hl => ?_)
  refine lv_iconst (v := 5) hx hb dX9_names_475 (by decide) ?_
  refine lv_istore_n (lv' := [(3, .int 5), (2, .int 3), (5, .int 6), (4, .int 0), (0, .int 55), (1, .int wh)]) hx hb dX9_names_476 rfl hl (by decide) rfl (fun ls hl => ?_)
  refine lv_iconst (v := 1) hx hb dX9_names_477 (by decide) ?_
  refine lv_istore (lv' := [(4, .int 1), (3, .int 5), (2, .int 3), (5, .int 6), (0, .int 55), (1, .int wh)]) hx hb dX9_names_478 hl (by decide) rfl (fun ls hl => ?_)
  refine lv_goto (tgt := 605) hx hb dX9_names_480 (by decide) ?_
  refine lv_iload_n hx hb dX9_names_605 rfl (lv_at hl 5 rfl) ?_
  refine lv_if_ne (tgt := 613) hx hb dX9_names_606 (by decide) (fun c_16 => ?_) (fun c_16 => ?_)
  · refine lv_iload_n hx hb dX9_names_613 rfl (lv_at hl 5 rfl) ?_
    refine lv_iconst (v := 1) hx hb dX9_names_614 (by decide) ?_
    refine lv_icmp_ne (tgt := 622) hx hb dX9_names_615 (by decide) (fun c_17 => ?_) (fun c_17 => ?_)
    · refine lv_iload hx hb dX9_names_622 (lv_at hl 0 rfl) ?_
      exact r_iret hC hr hlk hw () rfl ((if_neg c_16).trans (if_neg c_17)).symm (Nat.le_of_ble_eq_true rfl) (Nat.le_of_ble_eq_true rfl) dX9_names_624
    · refine lv_iload_n hx hb dX9_names_618 rfl (lv_at hl 1 rfl) ?_
      refine lv_goto (tgt := 624) hx hb dX9_names_619 (by decide) ?_
      exact r_iret hC hr hlk hw () rfl ((if_neg c_16).trans (if_pos c_17)).symm (Nat.le_of_ble_eq_true rfl) (Nat.le_of_ble_eq_true rfl) dX9_names_624
  · refine lv_iload_n hx hb dX9_names_609 rfl (lv_at hl 2 rfl) ?_
    refine lv_goto (tgt := 624) hx hb dX9_names_610 (by decide) ?_
    exact r_iret hC hr hlk hw () rfl (if_pos c_16).symm (Nat.le_of_ble_eq_true rfl) (Nat.le_of_ble_eq_true rfl) dX9_names_624

set_option maxHeartbeats 4000000 in
set_option maxRecDepth 100000 in
theorem c_X9_names_56 (l : Launch) {D : va_G} {q : Nat → ClassId} (w : wT) (sz : Nat) (wh : Int32) : Met l yX9_names wsX9_names (rmz 1 22) (va_Pc [.int 56, .int wh] (rPre D q w sz)) (va_Qi (fun (r : Int32) (u : Unit) => r = if wh = 0 then 4 else if wh = 1 then 5 else 1) (fun (u : Unit) tt => rPo D (rA w sz) w tt) (rA w sz)) 0 0 (rA w sz) := by
  refine r_start (cc := cX9_names) (maxL := 6) (ret := (some .int)) (by decide) rfl (Nat.le_of_ble_eq_true rfl) ?_
  intro p e s m below meth c ls hC hr hlk hnm hsz hw hl
  have hx := hC.1
  have hb := hC.2.1
  have hl : lv_has ls 6 [(0, .int 56), (1, .int wh)] := hl
  refine lv_iconst (v := 0) hx hb dX9_names_0 (by decide) ?_
  refine lv_istore_n (lv' := [(2, .int 0), (0, .int 56), (1, .int wh)]) hx hb dX9_names_1 rfl hl (by decide) rfl (fun ls hl => ?_)
  refine lv_iconst (v := 0) hx hb dX9_names_2 (by decide) ?_
  refine lv_istore_n (lv' := [(3, .int 0), (2, .int 0), (0, .int 56), (1, .int wh)]) hx hb dX9_names_3 rfl hl (by decide) rfl (fun ls hl => ?_)
  refine lv_iconst (v := 0) hx hb dX9_names_4 (by decide) ?_
  refine lv_istore (lv' := [(4, .int 0), (3, .int 0), (2, .int 0), (0, .int 56), (1, .int wh)]) hx hb dX9_names_5 hl (by decide) rfl (fun ls hl => ?_)
  refine lv_iload_n hx hb dX9_names_7 rfl (lv_at hl 3 rfl) ?_
  refine lv_iconst (v := 1) hx hb dX9_names_8 (by decide) ?_
  refine lv_icmp_eq (tgt := 24) hx hb dX9_names_9 (by decide) (fun c_ => absurd c_ (by decide)) (fun _ => ?_)
  refine lv_iload_n hx hb dX9_names_12 rfl (lv_at hl 3 rfl) ?_
  refine lv_bipush (v := 72) hx hb dX9_names_13 (by decide) ?_
  refine lv_icmp_eq (tgt := 24) hx hb dX9_names_15 (by decide) (fun c_ => absurd c_ (by decide)) (fun _ => ?_)
  refine lv_iload_n hx hb dX9_names_18 rfl (lv_at hl 3 rfl) ?_
  refine lv_bipush (v := 73) hx hb dX9_names_19 (by decide) ?_
  refine lv_icmp_ne (tgt := 29) hx hb dX9_names_21 (by decide) (fun _ => ?_) (fun c_ => absurd c_ (by decide))
  refine lv_iload_n hx hb dX9_names_29 rfl (lv_at hl 3 rfl) ?_
  refine lv_iconst (v := 2) hx hb dX9_names_30 (by decide) ?_
  refine lv_icmp_ne (tgt := 39) hx hb dX9_names_31 (by decide) (fun _ => ?_) (fun c_ => absurd c_ (by decide))
  refine lv_iload_n hx hb dX9_names_39 rfl (lv_at hl 3 rfl) ?_
  refine lv_iconst (v := 3) hx hb dX9_names_40 (by decide) ?_
  refine lv_icmp_ne (tgt := 51) hx hb dX9_names_41 (by decide) (fun _ => ?_) (fun c_ => absurd c_ (by decide))
  refine lv_iload_n hx hb dX9_names_51 rfl (lv_at hl 3 rfl) ?_
  refine lv_iconst (v := 4) hx hb dX9_names_52 (by decide) ?_
  refine lv_bipush (v := 8) hx hb dX9_names_53 (by decide) ?_
  refine r_ki hw (r_runS (rest := []) hC hw (c_X9_isIn l _ _ 56 4 8) 3 gX9_names_X9_isIn rfl rfl rfl (by decide +kernel) ⟨Nat.le_of_ble_eq_true rfl, Nat.le_of_ble_eq_true rfl⟩ rfl hl.1 rfl (Nat.le_of_ble_eq_true rfl) dX9_names_55 ⟨Nat.le_of_ble_eq_true rfl, Nat.le_of_ble_eq_true rfl⟩) (fun r_2 u_3 H locs h_1 hw => ?_)
  rw [if_neg (by decide)] at h_1
  subst h_1
  refine lv_if_ne (tgt := 67) hx hb dX9_names_58 (by decide) (fun c_ => absurd (by decide) c_) (fun _ => ?_)
  refine lv_iload_n hx hb dX9_names_61 rfl (lv_at hl 3 rfl) ?_
  refine lv_bipush (v := 25) hx hb dX9_names_62 (by decide) ?_
  refine lv_icmp_ne (tgt := 77) hx hb dX9_names_64 (by decide) (fun _ => ?_) (fun c_ => absurd c_ (by decide))
  refine lv_iload_n hx hb dX9_names_77 rfl (lv_at hl 3 rfl) ?_
  refine lv_bipush (v := 9) hx hb dX9_names_78 (by decide) ?_
  refine lv_bipush (v := 12) hx hb dX9_names_80 (by decide) ?_
  refine r_ki hw (r_runS (rest := []) hC hw (c_X9_isIn l _ _ 56 9 12) 3 gX9_names_X9_isIn rfl rfl rfl (by decide +kernel) ⟨Nat.le_of_ble_eq_true rfl, Nat.le_of_ble_eq_true rfl⟩ rfl hl.1 rfl (Nat.le_of_ble_eq_true rfl) dX9_names_82 ⟨Nat.le_of_ble_eq_true rfl, Nat.le_of_ble_eq_true rfl⟩) (fun r_5 u_6 H locs h_4 hw => ?_)
  rw [if_neg (by decide)] at h_4
  subst h_4
  refine lv_if_eq (tgt := 98) hx hb dX9_names_85 (by decide) (fun _ => ?_) (fun c_ => absurd (by decide) c_)
  refine lv_iload_n hx hb dX9_names_98 rfl (lv_at hl 3 rfl) ?_
  refine lv_bipush (v := 13) hx hb dX9_names_99 (by decide) ?_
  refine lv_bipush (v := 24) hx hb dX9_names_101 (by decide) ?_
  refine r_ki hw (r_runS (rest := []) hC hw (c_X9_isIn l _ _ 56 13 24) 3 gX9_names_X9_isIn rfl rfl rfl (by decide +kernel) ⟨Nat.le_of_ble_eq_true rfl, Nat.le_of_ble_eq_true rfl⟩ rfl hl.1 rfl (Nat.le_of_ble_eq_true rfl) dX9_names_103 ⟨Nat.le_of_ble_eq_true rfl, Nat.le_of_ble_eq_true rfl⟩) (fun r_8 u_9 H locs h_7 hw => ?_)
  rw [if_neg (by decide)] at h_7
  subst h_7
  refine lv_if_ne (tgt := 115) hx hb dX9_names_106 (by decide) (fun c_ => absurd (by decide) c_) (fun _ => ?_)
  refine lv_iload_n hx hb dX9_names_109 rfl (lv_at hl 3 rfl) ?_
  refine lv_bipush (v := 26) hx hb dX9_names_110 (by decide) ?_
  refine lv_icmp_ne (tgt := 270) hx hb dX9_names_112 (by decide) (fun _ => ?_) (fun c_ => absurd c_ (by decide))
  refine lv_iload_n hx hb dX9_names_270 rfl (lv_at hl 3 rfl) ?_
  refine lv_bipush (v := 27) hx hb dX9_names_271 (by decide) ?_
  refine lv_icmp_eq (tgt := 282) hx hb dX9_names_273 (by decide) (fun c_ => absurd c_ (by decide)) (fun _ => ?_)
  refine lv_iload_n hx hb dX9_names_276 rfl (lv_at hl 3 rfl) ?_
  refine lv_bipush (v := 29) hx hb dX9_names_277 (by decide) ?_
  refine lv_icmp_ne (tgt := 288) hx hb dX9_names_279 (by decide) (fun _ => ?_) (fun c_ => absurd c_ (by decide))
  refine lv_iload_n hx hb dX9_names_288 rfl (lv_at hl 3 rfl) ?_
  refine lv_bipush (v := 28) hx hb dX9_names_289 (by decide) ?_
  refine lv_icmp_ne (tgt := 302) hx hb dX9_names_291 (by decide) (fun _ => ?_) (fun c_ => absurd c_ (by decide))
  refine lv_iload_n hx hb dX9_names_302 rfl (lv_at hl 3 rfl) ?_
  refine lv_bipush (v := 31) hx hb dX9_names_303 (by decide) ?_
  refine lv_bipush (v := 38) hx hb dX9_names_305 (by decide) ?_
  refine r_ki hw (r_runS (rest := []) hC hw (c_X9_isIn l _ _ 56 31 38) 3 gX9_names_X9_isIn rfl rfl rfl (by decide +kernel) ⟨Nat.le_of_ble_eq_true rfl, Nat.le_of_ble_eq_true rfl⟩ rfl hl.1 rfl (Nat.le_of_ble_eq_true rfl) dX9_names_307 ⟨Nat.le_of_ble_eq_true rfl, Nat.le_of_ble_eq_true rfl⟩) (fun r_11 u_12 H locs h_10 hw => ?_)
  rw [if_neg (by decide)] at h_10
  subst h_10
  refine lv_if_eq (tgt := 411) hx hb dX9_names_310 (by decide) (fun _ => ?_) (fun c_ => absurd (by decide) c_)
  refine lv_iload_n hx hb dX9_names_411 rfl (lv_at hl 3 rfl) ?_
  refine lv_bipush (v := 39) hx hb dX9_names_412 (by decide) ?_
  refine lv_bipush (v := 58) hx hb dX9_names_414 (by decide) ?_
  refine r_ki hw (r_runS (rest := []) hC hw (c_X9_isIn l _ _ 56 39 58) 3 gX9_names_X9_isIn rfl rfl rfl (by decide +kernel) ⟨Nat.le_of_ble_eq_true rfl, Nat.le_of_ble_eq_true rfl⟩ rfl hl.1 rfl (Nat.le_of_ble_eq_true rfl) dX9_names_416 ⟨Nat.le_of_ble_eq_true rfl, Nat.le_of_ble_eq_true rfl⟩) (fun r_14 u_15 H locs h_13 hw => ?_)
  rw [if_pos (by decide)] at h_13
  subst h_13
  refine lv_if_eq (tgt := 483) hx hb dX9_names_419 (by decide) (fun c_ => absurd c_ (by decide)) (fun _ => ?_)
  refine lv_iload_n hx hb dX9_names_422 rfl (lv_at hl 3 rfl) ?_
  refine lv_bipush (v := 39) hx hb dX9_names_423 (by decide) ?_
  refine lv_isub hx hb dX9_names_425 ?_
  refine r_topi (x := 56 - 39) (y := 17) (by decide) ?_
  refine lv_bipush (v := 10) hx hb dX9_names_426 (by decide) ?_
  refine lv_irem hx hb dX9_names_428 (by decide) ?_
  refine r_topi (x := 17 - 17 / 10 * 10) (y := 7) (by decide) ?_
  refine lv_istore (lv' := [(5, .int 7), (4, .int 0), (3, .int 0), (2, .int 0), (0, .int 56), (1, .int wh)]) hx hb dX9_names_429 hl (by decide) rfl (fun ls hl => ?_)
  refine lv_iload hx hb dX9_names_431 (lv_at hl 0 rfl) ?_
  refine lv_iconst (v := 5) hx hb dX9_names_433 (by decide) ?_
  refine lv_icmp_ge (tgt := 441) hx hb dX9_names_434 (by decide) (fun _ => ?_) (fun c_ => absurd (by decide) c_)
  refine lv_iload hx hb dX9_names_441 (lv_at hl 0 rfl) ?_
  refine lv_iconst (v := 5) hx hb dX9_names_443 (by decide) ?_
  refine lv_icmp_ne (tgt := 451) hx hb dX9_names_444 (by decide) (fun _ => ?_) (fun c_ => absurd c_ (by decide))
  refine lv_iload hx hb dX9_names_451 (lv_at hl 0 rfl) ?_
  refine lv_bipush (v := 6) hx hb dX9_names_453 (by decide) ?_
  refine lv_icmp_ne (tgt := 462) hx hb dX9_names_455 (by decide) (fun _ => ?_) (fun c_ => absurd c_ (by decide))
  refine lv_iload hx hb dX9_names_462 (lv_at hl 0 rfl) ?_
  refine lv_bipush (v := 7) hx hb dX9_names_464 (by decide) ?_
  refine lv_icmp_ne (tgt := 473) hx hb dX9_names_466 (by decide) (fun c_ => absurd (by decide) c_) (fun _ => ?_)
  refine lv_iconst (v := 4) hx hb dX9_names_469 (by decide) ?_
  refine lv_goto (tgt := 474) hx hb dX9_names_470 (by decide) ?_
  refine lv_istore_n (lv' := [(2, .int 4), (5, .int 7), (4, .int 0), (3, .int 0), (0, .int 56), (1, .int wh)]) hx hb dX9_names_474 rfl hl (by decide) rfl (fun ls hl => ?_)
  refine lv_iconst (v := 5) hx hb dX9_names_475 (by decide) ?_
  refine lv_istore_n (lv' := [(3, .int 5), (2, .int 4), (5, .int 7), (4, .int 0), (0, .int 56), (1, .int wh)]) hx hb dX9_names_476 rfl hl (by decide) rfl (fun ls hl => ?_)
  refine lv_iconst (v := 1) hx hb dX9_names_477 (by decide) ?_
  refine lv_istore (lv' := [(4, .int 1), (3, .int 5), (2, .int 4), (5, .int 7), (0, .int 56), (1, .int wh)]) hx hb dX9_names_478 hl (by decide) rfl (fun ls hl => ?_)
  refine lv_goto (tgt := 605) hx hb dX9_names_480 (by decide) ?_
  refine lv_iload_n hx hb dX9_names_605 rfl (lv_at hl 5 rfl) ?_
  refine lv_if_ne (tgt := 613) hx hb dX9_names_606 (by decide) (fun c_16 => ?_) (fun c_16 => ?_)
  · refine lv_iload_n hx hb dX9_names_613 rfl (lv_at hl 5 rfl) ?_
    refine lv_iconst (v := 1) hx hb dX9_names_614 (by decide) ?_
    refine lv_icmp_ne (tgt := 622) hx hb dX9_names_615 (by decide) (fun c_17 => ?_) (fun c_17 => ?_)
    · refine lv_iload hx hb dX9_names_622 (lv_at hl 0 rfl) ?_
      exact r_iret hC hr hlk hw () rfl ((if_neg c_16).trans (if_neg c_17)).symm (Nat.le_of_ble_eq_true rfl) (Nat.le_of_ble_eq_true rfl) dX9_names_624
    · refine lv_iload_n hx hb dX9_names_618 rfl (lv_at hl 1 rfl) ?_
      refine lv_goto (tgt := 624) hx hb dX9_names_619 (by decide) ?_
      exact r_iret hC hr hlk hw () rfl ((if_neg c_16).trans (if_pos c_17)).symm (Nat.le_of_ble_eq_true rfl) (Nat.le_of_ble_eq_true rfl) dX9_names_624
  · refine lv_iload_n hx hb dX9_names_609 rfl (lv_at hl 2 rfl) ?_
    refine lv_goto (tgt := 624) hx hb dX9_names_610 (by decide) ?_
    exact r_iret hC hr hlk hw () rfl (if_pos c_16).symm (Nat.le_of_ble_eq_true rfl) (Nat.le_of_ble_eq_true rfl) dX9_names_624

set_option maxHeartbeats 4000000 in
set_option maxRecDepth 100000 in
theorem c_X9_names_57 (l : Launch) {D : va_G} {q : Nat → ClassId} (w : wT) (sz : Nat) (wh : Int32) : Met l yX9_names wsX9_names (rmz 1 22) (va_Pc [.int 57, .int wh] (rPre D q w sz)) (va_Qi (fun (r : Int32) (u : Unit) => r = if wh = 0 then 5 else if wh = 1 then 5 else 1) (fun (u : Unit) tt => rPo D (rA w sz) w tt) (rA w sz)) 0 0 (rA w sz) := by
  refine r_start (cc := cX9_names) (maxL := 6) (ret := (some .int)) (by decide) rfl (Nat.le_of_ble_eq_true rfl) ?_
  intro p e s m below meth c ls hC hr hlk hnm hsz hw hl
  have hx := hC.1
  have hb := hC.2.1
  have hl : lv_has ls 6 [(0, .int 57), (1, .int wh)] := hl
  refine lv_iconst (v := 0) hx hb dX9_names_0 (by decide) ?_
  refine lv_istore_n (lv' := [(2, .int 0), (0, .int 57), (1, .int wh)]) hx hb dX9_names_1 rfl hl (by decide) rfl (fun ls hl => ?_)
  refine lv_iconst (v := 0) hx hb dX9_names_2 (by decide) ?_
  refine lv_istore_n (lv' := [(3, .int 0), (2, .int 0), (0, .int 57), (1, .int wh)]) hx hb dX9_names_3 rfl hl (by decide) rfl (fun ls hl => ?_)
  refine lv_iconst (v := 0) hx hb dX9_names_4 (by decide) ?_
  refine lv_istore (lv' := [(4, .int 0), (3, .int 0), (2, .int 0), (0, .int 57), (1, .int wh)]) hx hb dX9_names_5 hl (by decide) rfl (fun ls hl => ?_)
  refine lv_iload_n hx hb dX9_names_7 rfl (lv_at hl 3 rfl) ?_
  refine lv_iconst (v := 1) hx hb dX9_names_8 (by decide) ?_
  refine lv_icmp_eq (tgt := 24) hx hb dX9_names_9 (by decide) (fun c_ => absurd c_ (by decide)) (fun _ => ?_)
  refine lv_iload_n hx hb dX9_names_12 rfl (lv_at hl 3 rfl) ?_
  refine lv_bipush (v := 72) hx hb dX9_names_13 (by decide) ?_
  refine lv_icmp_eq (tgt := 24) hx hb dX9_names_15 (by decide) (fun c_ => absurd c_ (by decide)) (fun _ => ?_)
  refine lv_iload_n hx hb dX9_names_18 rfl (lv_at hl 3 rfl) ?_
  refine lv_bipush (v := 73) hx hb dX9_names_19 (by decide) ?_
  refine lv_icmp_ne (tgt := 29) hx hb dX9_names_21 (by decide) (fun _ => ?_) (fun c_ => absurd c_ (by decide))
  refine lv_iload_n hx hb dX9_names_29 rfl (lv_at hl 3 rfl) ?_
  refine lv_iconst (v := 2) hx hb dX9_names_30 (by decide) ?_
  refine lv_icmp_ne (tgt := 39) hx hb dX9_names_31 (by decide) (fun _ => ?_) (fun c_ => absurd c_ (by decide))
  refine lv_iload_n hx hb dX9_names_39 rfl (lv_at hl 3 rfl) ?_
  refine lv_iconst (v := 3) hx hb dX9_names_40 (by decide) ?_
  refine lv_icmp_ne (tgt := 51) hx hb dX9_names_41 (by decide) (fun _ => ?_) (fun c_ => absurd c_ (by decide))
  refine lv_iload_n hx hb dX9_names_51 rfl (lv_at hl 3 rfl) ?_
  refine lv_iconst (v := 4) hx hb dX9_names_52 (by decide) ?_
  refine lv_bipush (v := 8) hx hb dX9_names_53 (by decide) ?_
  refine r_ki hw (r_runS (rest := []) hC hw (c_X9_isIn l _ _ 57 4 8) 3 gX9_names_X9_isIn rfl rfl rfl (by decide +kernel) ⟨Nat.le_of_ble_eq_true rfl, Nat.le_of_ble_eq_true rfl⟩ rfl hl.1 rfl (Nat.le_of_ble_eq_true rfl) dX9_names_55 ⟨Nat.le_of_ble_eq_true rfl, Nat.le_of_ble_eq_true rfl⟩) (fun r_2 u_3 H locs h_1 hw => ?_)
  rw [if_neg (by decide)] at h_1
  subst h_1
  refine lv_if_ne (tgt := 67) hx hb dX9_names_58 (by decide) (fun c_ => absurd (by decide) c_) (fun _ => ?_)
  refine lv_iload_n hx hb dX9_names_61 rfl (lv_at hl 3 rfl) ?_
  refine lv_bipush (v := 25) hx hb dX9_names_62 (by decide) ?_
  refine lv_icmp_ne (tgt := 77) hx hb dX9_names_64 (by decide) (fun _ => ?_) (fun c_ => absurd c_ (by decide))
  refine lv_iload_n hx hb dX9_names_77 rfl (lv_at hl 3 rfl) ?_
  refine lv_bipush (v := 9) hx hb dX9_names_78 (by decide) ?_
  refine lv_bipush (v := 12) hx hb dX9_names_80 (by decide) ?_
  refine r_ki hw (r_runS (rest := []) hC hw (c_X9_isIn l _ _ 57 9 12) 3 gX9_names_X9_isIn rfl rfl rfl (by decide +kernel) ⟨Nat.le_of_ble_eq_true rfl, Nat.le_of_ble_eq_true rfl⟩ rfl hl.1 rfl (Nat.le_of_ble_eq_true rfl) dX9_names_82 ⟨Nat.le_of_ble_eq_true rfl, Nat.le_of_ble_eq_true rfl⟩) (fun r_5 u_6 H locs h_4 hw => ?_)
  rw [if_neg (by decide)] at h_4
  subst h_4
  refine lv_if_eq (tgt := 98) hx hb dX9_names_85 (by decide) (fun _ => ?_) (fun c_ => absurd (by decide) c_)
  refine lv_iload_n hx hb dX9_names_98 rfl (lv_at hl 3 rfl) ?_
  refine lv_bipush (v := 13) hx hb dX9_names_99 (by decide) ?_
  refine lv_bipush (v := 24) hx hb dX9_names_101 (by decide) ?_
  refine r_ki hw (r_runS (rest := []) hC hw (c_X9_isIn l _ _ 57 13 24) 3 gX9_names_X9_isIn rfl rfl rfl (by decide +kernel) ⟨Nat.le_of_ble_eq_true rfl, Nat.le_of_ble_eq_true rfl⟩ rfl hl.1 rfl (Nat.le_of_ble_eq_true rfl) dX9_names_103 ⟨Nat.le_of_ble_eq_true rfl, Nat.le_of_ble_eq_true rfl⟩) (fun r_8 u_9 H locs h_7 hw => ?_)
  rw [if_neg (by decide)] at h_7
  subst h_7
  refine lv_if_ne (tgt := 115) hx hb dX9_names_106 (by decide) (fun c_ => absurd (by decide) c_) (fun _ => ?_)
  refine lv_iload_n hx hb dX9_names_109 rfl (lv_at hl 3 rfl) ?_
  refine lv_bipush (v := 26) hx hb dX9_names_110 (by decide) ?_
  refine lv_icmp_ne (tgt := 270) hx hb dX9_names_112 (by decide) (fun _ => ?_) (fun c_ => absurd c_ (by decide))
  refine lv_iload_n hx hb dX9_names_270 rfl (lv_at hl 3 rfl) ?_
  refine lv_bipush (v := 27) hx hb dX9_names_271 (by decide) ?_
  refine lv_icmp_eq (tgt := 282) hx hb dX9_names_273 (by decide) (fun c_ => absurd c_ (by decide)) (fun _ => ?_)
  refine lv_iload_n hx hb dX9_names_276 rfl (lv_at hl 3 rfl) ?_
  refine lv_bipush (v := 29) hx hb dX9_names_277 (by decide) ?_
  refine lv_icmp_ne (tgt := 288) hx hb dX9_names_279 (by decide) (fun _ => ?_) (fun c_ => absurd c_ (by decide))
  refine lv_iload_n hx hb dX9_names_288 rfl (lv_at hl 3 rfl) ?_
  refine lv_bipush (v := 28) hx hb dX9_names_289 (by decide) ?_
  refine lv_icmp_ne (tgt := 302) hx hb dX9_names_291 (by decide) (fun _ => ?_) (fun c_ => absurd c_ (by decide))
  refine lv_iload_n hx hb dX9_names_302 rfl (lv_at hl 3 rfl) ?_
  refine lv_bipush (v := 31) hx hb dX9_names_303 (by decide) ?_
  refine lv_bipush (v := 38) hx hb dX9_names_305 (by decide) ?_
  refine r_ki hw (r_runS (rest := []) hC hw (c_X9_isIn l _ _ 57 31 38) 3 gX9_names_X9_isIn rfl rfl rfl (by decide +kernel) ⟨Nat.le_of_ble_eq_true rfl, Nat.le_of_ble_eq_true rfl⟩ rfl hl.1 rfl (Nat.le_of_ble_eq_true rfl) dX9_names_307 ⟨Nat.le_of_ble_eq_true rfl, Nat.le_of_ble_eq_true rfl⟩) (fun r_11 u_12 H locs h_10 hw => ?_)
  rw [if_neg (by decide)] at h_10
  subst h_10
  refine lv_if_eq (tgt := 411) hx hb dX9_names_310 (by decide) (fun _ => ?_) (fun c_ => absurd (by decide) c_)
  refine lv_iload_n hx hb dX9_names_411 rfl (lv_at hl 3 rfl) ?_
  refine lv_bipush (v := 39) hx hb dX9_names_412 (by decide) ?_
  refine lv_bipush (v := 58) hx hb dX9_names_414 (by decide) ?_
  refine r_ki hw (r_runS (rest := []) hC hw (c_X9_isIn l _ _ 57 39 58) 3 gX9_names_X9_isIn rfl rfl rfl (by decide +kernel) ⟨Nat.le_of_ble_eq_true rfl, Nat.le_of_ble_eq_true rfl⟩ rfl hl.1 rfl (Nat.le_of_ble_eq_true rfl) dX9_names_416 ⟨Nat.le_of_ble_eq_true rfl, Nat.le_of_ble_eq_true rfl⟩) (fun r_14 u_15 H locs h_13 hw => ?_)
  rw [if_pos (by decide)] at h_13
  subst h_13
  refine lv_if_eq (tgt := 483) hx hb dX9_names_419 (by decide) (fun c_ => absurd c_ (by decide)) (fun _ => ?_)
  refine lv_iload_n hx hb dX9_names_422 rfl (lv_at hl 3 rfl) ?_
  refine lv_bipush (v := 39) hx hb dX9_names_423 (by decide) ?_
  refine lv_isub hx hb dX9_names_425 ?_
  refine r_topi (x := 57 - 39) (y := 18) (by decide) ?_
  refine lv_bipush (v := 10) hx hb dX9_names_426 (by decide) ?_
  refine lv_irem hx hb dX9_names_428 (by decide) ?_
  refine r_topi (x := 18 - 18 / 10 * 10) (y := 8) (by decide) ?_
  refine lv_istore (lv' := [(5, .int 8), (4, .int 0), (3, .int 0), (2, .int 0), (0, .int 57), (1, .int wh)]) hx hb dX9_names_429 hl (by decide) rfl (fun ls hl => ?_)
  refine lv_iload hx hb dX9_names_431 (lv_at hl 0 rfl) ?_
  refine lv_iconst (v := 5) hx hb dX9_names_433 (by decide) ?_
  refine lv_icmp_ge (tgt := 441) hx hb dX9_names_434 (by decide) (fun _ => ?_) (fun c_ => absurd (by decide) c_)
  refine lv_iload hx hb dX9_names_441 (lv_at hl 0 rfl) ?_
  refine lv_iconst (v := 5) hx hb dX9_names_443 (by decide) ?_
  refine lv_icmp_ne (tgt := 451) hx hb dX9_names_444 (by decide) (fun _ => ?_) (fun c_ => absurd c_ (by decide))
  refine lv_iload hx hb dX9_names_451 (lv_at hl 0 rfl) ?_
  refine lv_bipush (v := 6) hx hb dX9_names_453 (by decide) ?_
  refine lv_icmp_ne (tgt := 462) hx hb dX9_names_455 (by decide) (fun _ => ?_) (fun c_ => absurd c_ (by decide))
  refine lv_iload hx hb dX9_names_462 (lv_at hl 0 rfl) ?_
  refine lv_bipush (v := 7) hx hb dX9_names_464 (by decide) ?_
  refine lv_icmp_ne (tgt := 473) hx hb dX9_names_466 (by decide) (fun _ => ?_) (fun c_ => absurd c_ (by decide))
  refine lv_iconst (v := 5) hx hb dX9_names_473 (by decide) ?_
  refine lv_istore_n (lv' := [(2, .int 5), (5, .int 8), (4, .int 0), (3, .int 0), (0, .int 57), (1, .int wh)]) hx hb dX9_names_474 rfl hl (by decide) rfl (fun ls hl => ?_)
  refine lv_iconst (v := 5) hx hb dX9_names_475 (by decide) ?_
  refine lv_istore_n (lv' := [(3, .int 5), (2, .int 5), (5, .int 8), (4, .int 0), (0, .int 57), (1, .int wh)]) hx hb dX9_names_476 rfl hl (by decide) rfl (fun ls hl => ?_)
  refine lv_iconst (v := 1) hx hb dX9_names_477 (by decide) ?_
  refine lv_istore (lv' := [(4, .int 1), (3, .int 5), (2, .int 5), (5, .int 8), (0, .int 57), (1, .int wh)]) hx hb dX9_names_478 hl (by decide) rfl (fun ls hl => ?_)
  refine lv_goto (tgt := 605) hx hb dX9_names_480 (by decide) ?_
  refine lv_iload_n hx hb dX9_names_605 rfl (lv_at hl 5 rfl) ?_
  refine lv_if_ne (tgt := 613) hx hb dX9_names_606 (by decide) (fun c_16 => ?_) (fun c_16 => ?_)
  · refine lv_iload_n hx hb dX9_names_613 rfl (lv_at hl 5 rfl) ?_
    refine lv_iconst (v := 1) hx hb dX9_names_614 (by decide) ?_
    refine lv_icmp_ne (tgt := 622) hx hb dX9_names_615 (by decide) (fun c_17 => ?_) (fun c_17 => ?_)
    · refine lv_iload hx hb dX9_names_622 (lv_at hl 0 rfl) ?_
      exact r_iret hC hr hlk hw () rfl ((if_neg c_16).trans (if_neg c_17)).symm (Nat.le_of_ble_eq_true rfl) (Nat.le_of_ble_eq_true rfl) dX9_names_624
    · refine lv_iload_n hx hb dX9_names_618 rfl (lv_at hl 1 rfl) ?_
      refine lv_goto (tgt := 624) hx hb dX9_names_619 (by decide) ?_
      exact r_iret hC hr hlk hw () rfl ((if_neg c_16).trans (if_pos c_17)).symm (Nat.le_of_ble_eq_true rfl) (Nat.le_of_ble_eq_true rfl) dX9_names_624
  · refine lv_iload_n hx hb dX9_names_609 rfl (lv_at hl 2 rfl) ?_
    refine lv_goto (tgt := 624) hx hb dX9_names_610 (by decide) ?_
    exact r_iret hC hr hlk hw () rfl (if_pos c_16).symm (Nat.le_of_ble_eq_true rfl) (Nat.le_of_ble_eq_true rfl) dX9_names_624

set_option maxHeartbeats 4000000 in
set_option maxRecDepth 100000 in
theorem c_X9_names_58 (l : Launch) {D : va_G} {q : Nat → ClassId} (w : wT) (sz : Nat) (wh : Int32) : Met l yX9_names wsX9_names (rmz 1 22) (va_Pc [.int 58, .int wh] (rPre D q w sz)) (va_Qi (fun (r : Int32) (u : Unit) => r = if wh = 0 then 5 else if wh = 1 then 5 else 1) (fun (u : Unit) tt => rPo D (rA w sz) w tt) (rA w sz)) 0 0 (rA w sz) := by
  refine r_start (cc := cX9_names) (maxL := 6) (ret := (some .int)) (by decide) rfl (Nat.le_of_ble_eq_true rfl) ?_
  intro p e s m below meth c ls hC hr hlk hnm hsz hw hl
  have hx := hC.1
  have hb := hC.2.1
  have hl : lv_has ls 6 [(0, .int 58), (1, .int wh)] := hl
  refine lv_iconst (v := 0) hx hb dX9_names_0 (by decide) ?_
  refine lv_istore_n (lv' := [(2, .int 0), (0, .int 58), (1, .int wh)]) hx hb dX9_names_1 rfl hl (by decide) rfl (fun ls hl => ?_)
  refine lv_iconst (v := 0) hx hb dX9_names_2 (by decide) ?_
  refine lv_istore_n (lv' := [(3, .int 0), (2, .int 0), (0, .int 58), (1, .int wh)]) hx hb dX9_names_3 rfl hl (by decide) rfl (fun ls hl => ?_)
  refine lv_iconst (v := 0) hx hb dX9_names_4 (by decide) ?_
  refine lv_istore (lv' := [(4, .int 0), (3, .int 0), (2, .int 0), (0, .int 58), (1, .int wh)]) hx hb dX9_names_5 hl (by decide) rfl (fun ls hl => ?_)
  refine lv_iload_n hx hb dX9_names_7 rfl (lv_at hl 3 rfl) ?_
  refine lv_iconst (v := 1) hx hb dX9_names_8 (by decide) ?_
  refine lv_icmp_eq (tgt := 24) hx hb dX9_names_9 (by decide) (fun c_ => absurd c_ (by decide)) (fun _ => ?_)
  refine lv_iload_n hx hb dX9_names_12 rfl (lv_at hl 3 rfl) ?_
  refine lv_bipush (v := 72) hx hb dX9_names_13 (by decide) ?_
  refine lv_icmp_eq (tgt := 24) hx hb dX9_names_15 (by decide) (fun c_ => absurd c_ (by decide)) (fun _ => ?_)
  refine lv_iload_n hx hb dX9_names_18 rfl (lv_at hl 3 rfl) ?_
  refine lv_bipush (v := 73) hx hb dX9_names_19 (by decide) ?_
  refine lv_icmp_ne (tgt := 29) hx hb dX9_names_21 (by decide) (fun _ => ?_) (fun c_ => absurd c_ (by decide))
  refine lv_iload_n hx hb dX9_names_29 rfl (lv_at hl 3 rfl) ?_
  refine lv_iconst (v := 2) hx hb dX9_names_30 (by decide) ?_
  refine lv_icmp_ne (tgt := 39) hx hb dX9_names_31 (by decide) (fun _ => ?_) (fun c_ => absurd c_ (by decide))
  refine lv_iload_n hx hb dX9_names_39 rfl (lv_at hl 3 rfl) ?_
  refine lv_iconst (v := 3) hx hb dX9_names_40 (by decide) ?_
  refine lv_icmp_ne (tgt := 51) hx hb dX9_names_41 (by decide) (fun _ => ?_) (fun c_ => absurd c_ (by decide))
  refine lv_iload_n hx hb dX9_names_51 rfl (lv_at hl 3 rfl) ?_
  refine lv_iconst (v := 4) hx hb dX9_names_52 (by decide) ?_
  refine lv_bipush (v := 8) hx hb dX9_names_53 (by decide) ?_
  refine r_ki hw (r_runS (rest := []) hC hw (c_X9_isIn l _ _ 58 4 8) 3 gX9_names_X9_isIn rfl rfl rfl (by decide +kernel) ⟨Nat.le_of_ble_eq_true rfl, Nat.le_of_ble_eq_true rfl⟩ rfl hl.1 rfl (Nat.le_of_ble_eq_true rfl) dX9_names_55 ⟨Nat.le_of_ble_eq_true rfl, Nat.le_of_ble_eq_true rfl⟩) (fun r_2 u_3 H locs h_1 hw => ?_)
  rw [if_neg (by decide)] at h_1
  subst h_1
  refine lv_if_ne (tgt := 67) hx hb dX9_names_58 (by decide) (fun c_ => absurd (by decide) c_) (fun _ => ?_)
  refine lv_iload_n hx hb dX9_names_61 rfl (lv_at hl 3 rfl) ?_
  refine lv_bipush (v := 25) hx hb dX9_names_62 (by decide) ?_
  refine lv_icmp_ne (tgt := 77) hx hb dX9_names_64 (by decide) (fun _ => ?_) (fun c_ => absurd c_ (by decide))
  refine lv_iload_n hx hb dX9_names_77 rfl (lv_at hl 3 rfl) ?_
  refine lv_bipush (v := 9) hx hb dX9_names_78 (by decide) ?_
  refine lv_bipush (v := 12) hx hb dX9_names_80 (by decide) ?_
  refine r_ki hw (r_runS (rest := []) hC hw (c_X9_isIn l _ _ 58 9 12) 3 gX9_names_X9_isIn rfl rfl rfl (by decide +kernel) ⟨Nat.le_of_ble_eq_true rfl, Nat.le_of_ble_eq_true rfl⟩ rfl hl.1 rfl (Nat.le_of_ble_eq_true rfl) dX9_names_82 ⟨Nat.le_of_ble_eq_true rfl, Nat.le_of_ble_eq_true rfl⟩) (fun r_5 u_6 H locs h_4 hw => ?_)
  rw [if_neg (by decide)] at h_4
  subst h_4
  refine lv_if_eq (tgt := 98) hx hb dX9_names_85 (by decide) (fun _ => ?_) (fun c_ => absurd (by decide) c_)
  refine lv_iload_n hx hb dX9_names_98 rfl (lv_at hl 3 rfl) ?_
  refine lv_bipush (v := 13) hx hb dX9_names_99 (by decide) ?_
  refine lv_bipush (v := 24) hx hb dX9_names_101 (by decide) ?_
  refine r_ki hw (r_runS (rest := []) hC hw (c_X9_isIn l _ _ 58 13 24) 3 gX9_names_X9_isIn rfl rfl rfl (by decide +kernel) ⟨Nat.le_of_ble_eq_true rfl, Nat.le_of_ble_eq_true rfl⟩ rfl hl.1 rfl (Nat.le_of_ble_eq_true rfl) dX9_names_103 ⟨Nat.le_of_ble_eq_true rfl, Nat.le_of_ble_eq_true rfl⟩) (fun r_8 u_9 H locs h_7 hw => ?_)
  rw [if_neg (by decide)] at h_7
  subst h_7
  refine lv_if_ne (tgt := 115) hx hb dX9_names_106 (by decide) (fun c_ => absurd (by decide) c_) (fun _ => ?_)
  refine lv_iload_n hx hb dX9_names_109 rfl (lv_at hl 3 rfl) ?_
  refine lv_bipush (v := 26) hx hb dX9_names_110 (by decide) ?_
  refine lv_icmp_ne (tgt := 270) hx hb dX9_names_112 (by decide) (fun _ => ?_) (fun c_ => absurd c_ (by decide))
  refine lv_iload_n hx hb dX9_names_270 rfl (lv_at hl 3 rfl) ?_
  refine lv_bipush (v := 27) hx hb dX9_names_271 (by decide) ?_
  refine lv_icmp_eq (tgt := 282) hx hb dX9_names_273 (by decide) (fun c_ => absurd c_ (by decide)) (fun _ => ?_)
  refine lv_iload_n hx hb dX9_names_276 rfl (lv_at hl 3 rfl) ?_
  refine lv_bipush (v := 29) hx hb dX9_names_277 (by decide) ?_
  refine lv_icmp_ne (tgt := 288) hx hb dX9_names_279 (by decide) (fun _ => ?_) (fun c_ => absurd c_ (by decide))
  refine lv_iload_n hx hb dX9_names_288 rfl (lv_at hl 3 rfl) ?_
  refine lv_bipush (v := 28) hx hb dX9_names_289 (by decide) ?_
  refine lv_icmp_ne (tgt := 302) hx hb dX9_names_291 (by decide) (fun _ => ?_) (fun c_ => absurd c_ (by decide))
  refine lv_iload_n hx hb dX9_names_302 rfl (lv_at hl 3 rfl) ?_
  refine lv_bipush (v := 31) hx hb dX9_names_303 (by decide) ?_
  refine lv_bipush (v := 38) hx hb dX9_names_305 (by decide) ?_
  refine r_ki hw (r_runS (rest := []) hC hw (c_X9_isIn l _ _ 58 31 38) 3 gX9_names_X9_isIn rfl rfl rfl (by decide +kernel) ⟨Nat.le_of_ble_eq_true rfl, Nat.le_of_ble_eq_true rfl⟩ rfl hl.1 rfl (Nat.le_of_ble_eq_true rfl) dX9_names_307 ⟨Nat.le_of_ble_eq_true rfl, Nat.le_of_ble_eq_true rfl⟩) (fun r_11 u_12 H locs h_10 hw => ?_)
  rw [if_neg (by decide)] at h_10
  subst h_10
  refine lv_if_eq (tgt := 411) hx hb dX9_names_310 (by decide) (fun _ => ?_) (fun c_ => absurd (by decide) c_)
  refine lv_iload_n hx hb dX9_names_411 rfl (lv_at hl 3 rfl) ?_
  refine lv_bipush (v := 39) hx hb dX9_names_412 (by decide) ?_
  refine lv_bipush (v := 58) hx hb dX9_names_414 (by decide) ?_
  refine r_ki hw (r_runS (rest := []) hC hw (c_X9_isIn l _ _ 58 39 58) 3 gX9_names_X9_isIn rfl rfl rfl (by decide +kernel) ⟨Nat.le_of_ble_eq_true rfl, Nat.le_of_ble_eq_true rfl⟩ rfl hl.1 rfl (Nat.le_of_ble_eq_true rfl) dX9_names_416 ⟨Nat.le_of_ble_eq_true rfl, Nat.le_of_ble_eq_true rfl⟩) (fun r_14 u_15 H locs h_13 hw => ?_)
  rw [if_pos (by decide)] at h_13
  subst h_13
  refine lv_if_eq (tgt := 483) hx hb dX9_names_419 (by decide) (fun c_ => absurd c_ (by decide)) (fun _ => ?_)
  refine lv_iload_n hx hb dX9_names_422 rfl (lv_at hl 3 rfl) ?_
  refine lv_bipush (v := 39) hx hb dX9_names_423 (by decide) ?_
  refine lv_isub hx hb dX9_names_425 ?_
  refine r_topi (x := 58 - 39) (y := 19) (by decide) ?_
  refine lv_bipush (v := 10) hx hb dX9_names_426 (by decide) ?_
  refine lv_irem hx hb dX9_names_428 (by decide) ?_
  refine r_topi (x := 19 - 19 / 10 * 10) (y := 9) (by decide) ?_
  refine lv_istore (lv' := [(5, .int 9), (4, .int 0), (3, .int 0), (2, .int 0), (0, .int 58), (1, .int wh)]) hx hb dX9_names_429 hl (by decide) rfl (fun ls hl => ?_)
  refine lv_iload hx hb dX9_names_431 (lv_at hl 0 rfl) ?_
  refine lv_iconst (v := 5) hx hb dX9_names_433 (by decide) ?_
  refine lv_icmp_ge (tgt := 441) hx hb dX9_names_434 (by decide) (fun _ => ?_) (fun c_ => absurd (by decide) c_)
  refine lv_iload hx hb dX9_names_441 (lv_at hl 0 rfl) ?_
  refine lv_iconst (v := 5) hx hb dX9_names_443 (by decide) ?_
  refine lv_icmp_ne (tgt := 451) hx hb dX9_names_444 (by decide) (fun _ => ?_) (fun c_ => absurd c_ (by decide))
  refine lv_iload hx hb dX9_names_451 (lv_at hl 0 rfl) ?_
  refine lv_bipush (v := 6) hx hb dX9_names_453 (by decide) ?_
  refine lv_icmp_ne (tgt := 462) hx hb dX9_names_455 (by decide) (fun _ => ?_) (fun c_ => absurd c_ (by decide))
  refine lv_iload hx hb dX9_names_462 (lv_at hl 0 rfl) ?_
  refine lv_bipush (v := 7) hx hb dX9_names_464 (by decide) ?_
  refine lv_icmp_ne (tgt := 473) hx hb dX9_names_466 (by decide) (fun _ => ?_) (fun c_ => absurd c_ (by decide))
  refine lv_iconst (v := 5) hx hb dX9_names_473 (by decide) ?_
  refine lv_istore_n (lv' := [(2, .int 5), (5, .int 9), (4, .int 0), (3, .int 0), (0, .int 58), (1, .int wh)]) hx hb dX9_names_474 rfl hl (by decide) rfl (fun ls hl => ?_)
  refine lv_iconst (v := 5) hx hb dX9_names_475 (by decide) ?_
  refine lv_istore_n (lv' := [(3, .int 5), (2, .int 5), (5, .int 9), (4, .int 0), (0, .int 58), (1, .int wh)]) hx hb dX9_names_476 rfl hl (by decide) rfl (fun ls hl => ?_)
  refine lv_iconst (v := 1) hx hb dX9_names_477 (by decide) ?_
  refine lv_istore (lv' := [(4, .int 1), (3, .int 5), (2, .int 5), (5, .int 9), (0, .int 58), (1, .int wh)]) hx hb dX9_names_478 hl (by decide) rfl (fun ls hl => ?_)
  refine lv_goto (tgt := 605) hx hb dX9_names_480 (by decide) ?_
  refine lv_iload_n hx hb dX9_names_605 rfl (lv_at hl 5 rfl) ?_
  refine lv_if_ne (tgt := 613) hx hb dX9_names_606 (by decide) (fun c_16 => ?_) (fun c_16 => ?_)
  · refine lv_iload_n hx hb dX9_names_613 rfl (lv_at hl 5 rfl) ?_
    refine lv_iconst (v := 1) hx hb dX9_names_614 (by decide) ?_
    refine lv_icmp_ne (tgt := 622) hx hb dX9_names_615 (by decide) (fun c_17 => ?_) (fun c_17 => ?_)
    · refine lv_iload hx hb dX9_names_622 (lv_at hl 0 rfl) ?_
      exact r_iret hC hr hlk hw () rfl ((if_neg c_16).trans (if_neg c_17)).symm (Nat.le_of_ble_eq_true rfl) (Nat.le_of_ble_eq_true rfl) dX9_names_624
    · refine lv_iload_n hx hb dX9_names_618 rfl (lv_at hl 1 rfl) ?_
      refine lv_goto (tgt := 624) hx hb dX9_names_619 (by decide) ?_
      exact r_iret hC hr hlk hw () rfl ((if_neg c_16).trans (if_pos c_17)).symm (Nat.le_of_ble_eq_true rfl) (Nat.le_of_ble_eq_true rfl) dX9_names_624
  · refine lv_iload_n hx hb dX9_names_609 rfl (lv_at hl 2 rfl) ?_
    refine lv_goto (tgt := 624) hx hb dX9_names_610 (by decide) ?_
    exact r_iret hC hr hlk hw () rfl (if_pos c_16).symm (Nat.le_of_ble_eq_true rfl) (Nat.le_of_ble_eq_true rfl) dX9_names_624

set_option maxHeartbeats 4000000 in
set_option maxRecDepth 100000 in
theorem c_X9_names_59 (l : Launch) {D : va_G} {q : Nat → ClassId} (w : wT) (sz : Nat) (wh : Int32) : Met l yX9_names wsX9_names (rmz 1 22) (va_Pc [.int 59, .int wh] (rPre D q w sz)) (va_Qi (fun (r : Int32) (u : Unit) => r = if wh = 0 then 1 else if wh = 1 then 5 else 0) (fun (u : Unit) tt => rPo D (rA w sz) w tt) (rA w sz)) 0 0 (rA w sz) := by
  refine r_start (cc := cX9_names) (maxL := 6) (ret := (some .int)) (by decide) rfl (Nat.le_of_ble_eq_true rfl) ?_
  intro p e s m below meth c ls hC hr hlk hnm hsz hw hl
  have hx := hC.1
  have hb := hC.2.1
  have hl : lv_has ls 6 [(0, .int 59), (1, .int wh)] := hl
  refine lv_iconst (v := 0) hx hb dX9_names_0 (by decide) ?_
  refine lv_istore_n (lv' := [(2, .int 0), (0, .int 59), (1, .int wh)]) hx hb dX9_names_1 rfl hl (by decide) rfl (fun ls hl => ?_)
  refine lv_iconst (v := 0) hx hb dX9_names_2 (by decide) ?_
  refine lv_istore_n (lv' := [(3, .int 0), (2, .int 0), (0, .int 59), (1, .int wh)]) hx hb dX9_names_3 rfl hl (by decide) rfl (fun ls hl => ?_)
  refine lv_iconst (v := 0) hx hb dX9_names_4 (by decide) ?_
  refine lv_istore (lv' := [(4, .int 0), (3, .int 0), (2, .int 0), (0, .int 59), (1, .int wh)]) hx hb dX9_names_5 hl (by decide) rfl (fun ls hl => ?_)
  refine lv_iload_n hx hb dX9_names_7 rfl (lv_at hl 3 rfl) ?_
  refine lv_iconst (v := 1) hx hb dX9_names_8 (by decide) ?_
  refine lv_icmp_eq (tgt := 24) hx hb dX9_names_9 (by decide) (fun c_ => absurd c_ (by decide)) (fun _ => ?_)
  refine lv_iload_n hx hb dX9_names_12 rfl (lv_at hl 3 rfl) ?_
  refine lv_bipush (v := 72) hx hb dX9_names_13 (by decide) ?_
  refine lv_icmp_eq (tgt := 24) hx hb dX9_names_15 (by decide) (fun c_ => absurd c_ (by decide)) (fun _ => ?_)
  refine lv_iload_n hx hb dX9_names_18 rfl (lv_at hl 3 rfl) ?_
  refine lv_bipush (v := 73) hx hb dX9_names_19 (by decide) ?_
  refine lv_icmp_ne (tgt := 29) hx hb dX9_names_21 (by decide) (fun _ => ?_) (fun c_ => absurd c_ (by decide))
  refine lv_iload_n hx hb dX9_names_29 rfl (lv_at hl 3 rfl) ?_
  refine lv_iconst (v := 2) hx hb dX9_names_30 (by decide) ?_
  refine lv_icmp_ne (tgt := 39) hx hb dX9_names_31 (by decide) (fun _ => ?_) (fun c_ => absurd c_ (by decide))
  refine lv_iload_n hx hb dX9_names_39 rfl (lv_at hl 3 rfl) ?_
  refine lv_iconst (v := 3) hx hb dX9_names_40 (by decide) ?_
  refine lv_icmp_ne (tgt := 51) hx hb dX9_names_41 (by decide) (fun _ => ?_) (fun c_ => absurd c_ (by decide))
  refine lv_iload_n hx hb dX9_names_51 rfl (lv_at hl 3 rfl) ?_
  refine lv_iconst (v := 4) hx hb dX9_names_52 (by decide) ?_
  refine lv_bipush (v := 8) hx hb dX9_names_53 (by decide) ?_
  refine r_ki hw (r_runS (rest := []) hC hw (c_X9_isIn l _ _ 59 4 8) 3 gX9_names_X9_isIn rfl rfl rfl (by decide +kernel) ⟨Nat.le_of_ble_eq_true rfl, Nat.le_of_ble_eq_true rfl⟩ rfl hl.1 rfl (Nat.le_of_ble_eq_true rfl) dX9_names_55 ⟨Nat.le_of_ble_eq_true rfl, Nat.le_of_ble_eq_true rfl⟩) (fun r_2 u_3 H locs h_1 hw => ?_)
  rw [if_neg (by decide)] at h_1
  subst h_1
  refine lv_if_ne (tgt := 67) hx hb dX9_names_58 (by decide) (fun c_ => absurd (by decide) c_) (fun _ => ?_)
  refine lv_iload_n hx hb dX9_names_61 rfl (lv_at hl 3 rfl) ?_
  refine lv_bipush (v := 25) hx hb dX9_names_62 (by decide) ?_
  refine lv_icmp_ne (tgt := 77) hx hb dX9_names_64 (by decide) (fun _ => ?_) (fun c_ => absurd c_ (by decide))
  refine lv_iload_n hx hb dX9_names_77 rfl (lv_at hl 3 rfl) ?_
  refine lv_bipush (v := 9) hx hb dX9_names_78 (by decide) ?_
  refine lv_bipush (v := 12) hx hb dX9_names_80 (by decide) ?_
  refine r_ki hw (r_runS (rest := []) hC hw (c_X9_isIn l _ _ 59 9 12) 3 gX9_names_X9_isIn rfl rfl rfl (by decide +kernel) ⟨Nat.le_of_ble_eq_true rfl, Nat.le_of_ble_eq_true rfl⟩ rfl hl.1 rfl (Nat.le_of_ble_eq_true rfl) dX9_names_82 ⟨Nat.le_of_ble_eq_true rfl, Nat.le_of_ble_eq_true rfl⟩) (fun r_5 u_6 H locs h_4 hw => ?_)
  rw [if_neg (by decide)] at h_4
  subst h_4
  refine lv_if_eq (tgt := 98) hx hb dX9_names_85 (by decide) (fun _ => ?_) (fun c_ => absurd (by decide) c_)
  refine lv_iload_n hx hb dX9_names_98 rfl (lv_at hl 3 rfl) ?_
  refine lv_bipush (v := 13) hx hb dX9_names_99 (by decide) ?_
  refine lv_bipush (v := 24) hx hb dX9_names_101 (by decide) ?_
  refine r_ki hw (r_runS (rest := []) hC hw (c_X9_isIn l _ _ 59 13 24) 3 gX9_names_X9_isIn rfl rfl rfl (by decide +kernel) ⟨Nat.le_of_ble_eq_true rfl, Nat.le_of_ble_eq_true rfl⟩ rfl hl.1 rfl (Nat.le_of_ble_eq_true rfl) dX9_names_103 ⟨Nat.le_of_ble_eq_true rfl, Nat.le_of_ble_eq_true rfl⟩) (fun r_8 u_9 H locs h_7 hw => ?_)
  rw [if_neg (by decide)] at h_7
  subst h_7
  refine lv_if_ne (tgt := 115) hx hb dX9_names_106 (by decide) (fun c_ => absurd (by decide) c_) (fun _ => ?_)
  refine lv_iload_n hx hb dX9_names_109 rfl (lv_at hl 3 rfl) ?_
  refine lv_bipush (v := 26) hx hb dX9_names_110 (by decide) ?_
  refine lv_icmp_ne (tgt := 270) hx hb dX9_names_112 (by decide) (fun _ => ?_) (fun c_ => absurd c_ (by decide))
  refine lv_iload_n hx hb dX9_names_270 rfl (lv_at hl 3 rfl) ?_
  refine lv_bipush (v := 27) hx hb dX9_names_271 (by decide) ?_
  refine lv_icmp_eq (tgt := 282) hx hb dX9_names_273 (by decide) (fun c_ => absurd c_ (by decide)) (fun _ => ?_)
  refine lv_iload_n hx hb dX9_names_276 rfl (lv_at hl 3 rfl) ?_
  refine lv_bipush (v := 29) hx hb dX9_names_277 (by decide) ?_
  refine lv_icmp_ne (tgt := 288) hx hb dX9_names_279 (by decide) (fun _ => ?_) (fun c_ => absurd c_ (by decide))
  refine lv_iload_n hx hb dX9_names_288 rfl (lv_at hl 3 rfl) ?_
  refine lv_bipush (v := 28) hx hb dX9_names_289 (by decide) ?_
  refine lv_icmp_ne (tgt := 302) hx hb dX9_names_291 (by decide) (fun _ => ?_) (fun c_ => absurd c_ (by decide))
  refine lv_iload_n hx hb dX9_names_302 rfl (lv_at hl 3 rfl) ?_
  refine lv_bipush (v := 31) hx hb dX9_names_303 (by decide) ?_
  refine lv_bipush (v := 38) hx hb dX9_names_305 (by decide) ?_
  refine r_ki hw (r_runS (rest := []) hC hw (c_X9_isIn l _ _ 59 31 38) 3 gX9_names_X9_isIn rfl rfl rfl (by decide +kernel) ⟨Nat.le_of_ble_eq_true rfl, Nat.le_of_ble_eq_true rfl⟩ rfl hl.1 rfl (Nat.le_of_ble_eq_true rfl) dX9_names_307 ⟨Nat.le_of_ble_eq_true rfl, Nat.le_of_ble_eq_true rfl⟩) (fun r_11 u_12 H locs h_10 hw => ?_)
  rw [if_neg (by decide)] at h_10
  subst h_10
  refine lv_if_eq (tgt := 411) hx hb dX9_names_310 (by decide) (fun _ => ?_) (fun c_ => absurd (by decide) c_)
  refine lv_iload_n hx hb dX9_names_411 rfl (lv_at hl 3 rfl) ?_
  refine lv_bipush (v := 39) hx hb dX9_names_412 (by decide) ?_
  refine lv_bipush (v := 58) hx hb dX9_names_414 (by decide) ?_
  refine r_ki hw (r_runS (rest := []) hC hw (c_X9_isIn l _ _ 59 39 58) 3 gX9_names_X9_isIn rfl rfl rfl (by decide +kernel) ⟨Nat.le_of_ble_eq_true rfl, Nat.le_of_ble_eq_true rfl⟩ rfl hl.1 rfl (Nat.le_of_ble_eq_true rfl) dX9_names_416 ⟨Nat.le_of_ble_eq_true rfl, Nat.le_of_ble_eq_true rfl⟩) (fun r_14 u_15 H locs h_13 hw => ?_)
  rw [if_neg (by decide)] at h_13
  subst h_13
  refine lv_if_eq (tgt := 483) hx hb dX9_names_419 (by decide) (fun _ => ?_) (fun c_ => absurd (by decide) c_)
  refine lv_iload_n hx hb dX9_names_483 rfl (lv_at hl 3 rfl) ?_
  refine lv_bipush (v := 59) hx hb dX9_names_484 (by decide) ?_
  refine lv_bipush (v := 66) hx hb dX9_names_486 (by decide) ?_
  refine r_ki hw (r_runS (rest := []) hC hw (c_X9_isIn l _ _ 59 59 66) 3 gX9_names_X9_isIn rfl rfl rfl (by decide +kernel) ⟨Nat.le_of_ble_eq_true rfl, Nat.le_of_ble_eq_true rfl⟩ rfl hl.1 rfl (Nat.le_of_ble_eq_true rfl) dX9_names_488 ⟨Nat.le_of_ble_eq_true rfl, Nat.le_of_ble_eq_true rfl⟩) (fun r_17 u_18 H locs h_16 hw => ?_)
  rw [if_pos (by decide)] at h_16
  subst h_16
  refine lv_if_eq (tgt := 546) hx hb dX9_names_491 (by decide) (fun c_ => absurd c_ (by decide)) (fun _ => ?_)
  refine lv_iload_n hx hb dX9_names_494 rfl (lv_at hl 3 rfl) ?_
  refine lv_bipush (v := 61) hx hb dX9_names_495 (by decide) ?_
  refine lv_icmp_eq (tgt := 506) hx hb dX9_names_497 (by decide) (fun c_ => absurd c_ (by decide)) (fun _ => ?_)
  refine lv_iload_n hx hb dX9_names_500 rfl (lv_at hl 3 rfl) ?_
  refine lv_bipush (v := 62) hx hb dX9_names_501 (by decide) ?_
  refine lv_icmp_ne (tgt := 510) hx hb dX9_names_503 (by decide) (fun _ => ?_) (fun c_ => absurd c_ (by decide))
  refine lv_iload_n hx hb dX9_names_510 rfl (lv_at hl 3 rfl) ?_
  refine lv_bipush (v := 63) hx hb dX9_names_511 (by decide) ?_
  refine lv_icmp_eq (tgt := 522) hx hb dX9_names_513 (by decide) (fun c_ => absurd c_ (by decide)) (fun _ => ?_)
  refine lv_iload_n hx hb dX9_names_516 rfl (lv_at hl 3 rfl) ?_
  refine lv_bipush (v := 64) hx hb dX9_names_517 (by decide) ?_
  refine lv_icmp_ne (tgt := 526) hx hb dX9_names_519 (by decide) (fun _ => ?_) (fun c_ => absurd c_ (by decide))
  refine lv_iconst (v := 1) hx hb dX9_names_526 (by decide) ?_
  refine lv_istore_n (lv' := [(2, .int 1), (4, .int 0), (3, .int 0), (0, .int 59), (1, .int wh)]) hx hb dX9_names_527 rfl hl (by decide) rfl (fun ls hl => ?_)
  refine lv_iconst (v := 5) hx hb dX9_names_528 (by decide) ?_
  refine lv_istore_n (lv' := [(3, .int 5), (2, .int 1), (4, .int 0), (0, .int 59), (1, .int wh)]) hx hb dX9_names_529 rfl hl (by decide) rfl (fun ls hl => ?_)
  refine lv_iload_n hx hb dX9_names_530 rfl (lv_at hl 3 rfl) ?_
  refine lv_bipush (v := 65) hx hb dX9_names_531 (by decide) ?_
  refine lv_icmp_lt (tgt := 540) hx hb dX9_names_533 (by decide) (fun _ => ?_) (fun c_ => absurd (by decide) c_)
  refine lv_iconst (v := 0) hx hb dX9_names_540 (by decide) ?_
  refine lv_istore (lv' := [(4, .int 0), (3, .int 5), (2, .int 1), (0, .int 59), (1, .int wh)]) hx hb dX9_names_541 hl (by decide) rfl (fun ls hl => ?_)
  refine lv_goto (tgt := 605) hx hb dX9_names_543 (by decide) ?_
  refine lv_iload_n hx hb dX9_names_605 rfl (lv_at hl 4 rfl) ?_
  refine lv_if_ne (tgt := 613) hx hb dX9_names_606 (by decide) (fun c_19 => ?_) (fun c_19 => ?_)
  · refine lv_iload_n hx hb dX9_names_613 rfl (lv_at hl 4 rfl) ?_
    refine lv_iconst (v := 1) hx hb dX9_names_614 (by decide) ?_
    refine lv_icmp_ne (tgt := 622) hx hb dX9_names_615 (by decide) (fun c_20 => ?_) (fun c_20 => ?_)
    · refine lv_iload hx hb dX9_names_622 (lv_at hl 0 rfl) ?_
      exact r_iret hC hr hlk hw () rfl ((if_neg c_19).trans (if_neg c_20)).symm (Nat.le_of_ble_eq_true rfl) (Nat.le_of_ble_eq_true rfl) dX9_names_624
    · refine lv_iload_n hx hb dX9_names_618 rfl (lv_at hl 1 rfl) ?_
      refine lv_goto (tgt := 624) hx hb dX9_names_619 (by decide) ?_
      exact r_iret hC hr hlk hw () rfl ((if_neg c_19).trans (if_pos c_20)).symm (Nat.le_of_ble_eq_true rfl) (Nat.le_of_ble_eq_true rfl) dX9_names_624
  · refine lv_iload_n hx hb dX9_names_609 rfl (lv_at hl 2 rfl) ?_
    refine lv_goto (tgt := 624) hx hb dX9_names_610 (by decide) ?_
    exact r_iret hC hr hlk hw () rfl (if_pos c_19).symm (Nat.le_of_ble_eq_true rfl) (Nat.le_of_ble_eq_true rfl) dX9_names_624

set_option maxHeartbeats 4000000 in
set_option maxRecDepth 100000 in
theorem c_X9_names_60 (l : Launch) {D : va_G} {q : Nat → ClassId} (w : wT) (sz : Nat) (wh : Int32) : Met l yX9_names wsX9_names (rmz 1 22) (va_Pc [.int 60, .int wh] (rPre D q w sz)) (va_Qi (fun (r : Int32) (u : Unit) => r = if wh = 0 then 1 else if wh = 1 then 5 else 0) (fun (u : Unit) tt => rPo D (rA w sz) w tt) (rA w sz)) 0 0 (rA w sz) := by
  refine r_start (cc := cX9_names) (maxL := 6) (ret := (some .int)) (by decide) rfl (Nat.le_of_ble_eq_true rfl) ?_
  intro p e s m below meth c ls hC hr hlk hnm hsz hw hl
  have hx := hC.1
  have hb := hC.2.1
  have hl : lv_has ls 6 [(0, .int 60), (1, .int wh)] := hl
  refine lv_iconst (v := 0) hx hb dX9_names_0 (by decide) ?_
  refine lv_istore_n (lv' := [(2, .int 0), (0, .int 60), (1, .int wh)]) hx hb dX9_names_1 rfl hl (by decide) rfl (fun ls hl => ?_)
  refine lv_iconst (v := 0) hx hb dX9_names_2 (by decide) ?_
  refine lv_istore_n (lv' := [(3, .int 0), (2, .int 0), (0, .int 60), (1, .int wh)]) hx hb dX9_names_3 rfl hl (by decide) rfl (fun ls hl => ?_)
  refine lv_iconst (v := 0) hx hb dX9_names_4 (by decide) ?_
  refine lv_istore (lv' := [(4, .int 0), (3, .int 0), (2, .int 0), (0, .int 60), (1, .int wh)]) hx hb dX9_names_5 hl (by decide) rfl (fun ls hl => ?_)
  refine lv_iload_n hx hb dX9_names_7 rfl (lv_at hl 3 rfl) ?_
  refine lv_iconst (v := 1) hx hb dX9_names_8 (by decide) ?_
  refine lv_icmp_eq (tgt := 24) hx hb dX9_names_9 (by decide) (fun c_ => absurd c_ (by decide)) (fun _ => ?_)
  refine lv_iload_n hx hb dX9_names_12 rfl (lv_at hl 3 rfl) ?_
  refine lv_bipush (v := 72) hx hb dX9_names_13 (by decide) ?_
  refine lv_icmp_eq (tgt := 24) hx hb dX9_names_15 (by decide) (fun c_ => absurd c_ (by decide)) (fun _ => ?_)
  refine lv_iload_n hx hb dX9_names_18 rfl (lv_at hl 3 rfl) ?_
  refine lv_bipush (v := 73) hx hb dX9_names_19 (by decide) ?_
  refine lv_icmp_ne (tgt := 29) hx hb dX9_names_21 (by decide) (fun _ => ?_) (fun c_ => absurd c_ (by decide))
  refine lv_iload_n hx hb dX9_names_29 rfl (lv_at hl 3 rfl) ?_
  refine lv_iconst (v := 2) hx hb dX9_names_30 (by decide) ?_
  refine lv_icmp_ne (tgt := 39) hx hb dX9_names_31 (by decide) (fun _ => ?_) (fun c_ => absurd c_ (by decide))
  refine lv_iload_n hx hb dX9_names_39 rfl (lv_at hl 3 rfl) ?_
  refine lv_iconst (v := 3) hx hb dX9_names_40 (by decide) ?_
  refine lv_icmp_ne (tgt := 51) hx hb dX9_names_41 (by decide) (fun _ => ?_) (fun c_ => absurd c_ (by decide))
  refine lv_iload_n hx hb dX9_names_51 rfl (lv_at hl 3 rfl) ?_
  refine lv_iconst (v := 4) hx hb dX9_names_52 (by decide) ?_
  refine lv_bipush (v := 8) hx hb dX9_names_53 (by decide) ?_
  refine r_ki hw (r_runS (rest := []) hC hw (c_X9_isIn l _ _ 60 4 8) 3 gX9_names_X9_isIn rfl rfl rfl (by decide +kernel) ⟨Nat.le_of_ble_eq_true rfl, Nat.le_of_ble_eq_true rfl⟩ rfl hl.1 rfl (Nat.le_of_ble_eq_true rfl) dX9_names_55 ⟨Nat.le_of_ble_eq_true rfl, Nat.le_of_ble_eq_true rfl⟩) (fun r_2 u_3 H locs h_1 hw => ?_)
  rw [if_neg (by decide)] at h_1
  subst h_1
  refine lv_if_ne (tgt := 67) hx hb dX9_names_58 (by decide) (fun c_ => absurd (by decide) c_) (fun _ => ?_)
  refine lv_iload_n hx hb dX9_names_61 rfl (lv_at hl 3 rfl) ?_
  refine lv_bipush (v := 25) hx hb dX9_names_62 (by decide) ?_
  refine lv_icmp_ne (tgt := 77) hx hb dX9_names_64 (by decide) (fun _ => ?_) (fun c_ => absurd c_ (by decide))
  refine lv_iload_n hx hb dX9_names_77 rfl (lv_at hl 3 rfl) ?_
  refine lv_bipush (v := 9) hx hb dX9_names_78 (by decide) ?_
  refine lv_bipush (v := 12) hx hb dX9_names_80 (by decide) ?_
  refine r_ki hw (r_runS (rest := []) hC hw (c_X9_isIn l _ _ 60 9 12) 3 gX9_names_X9_isIn rfl rfl rfl (by decide +kernel) ⟨Nat.le_of_ble_eq_true rfl, Nat.le_of_ble_eq_true rfl⟩ rfl hl.1 rfl (Nat.le_of_ble_eq_true rfl) dX9_names_82 ⟨Nat.le_of_ble_eq_true rfl, Nat.le_of_ble_eq_true rfl⟩) (fun r_5 u_6 H locs h_4 hw => ?_)
  rw [if_neg (by decide)] at h_4
  subst h_4
  refine lv_if_eq (tgt := 98) hx hb dX9_names_85 (by decide) (fun _ => ?_) (fun c_ => absurd (by decide) c_)
  refine lv_iload_n hx hb dX9_names_98 rfl (lv_at hl 3 rfl) ?_
  refine lv_bipush (v := 13) hx hb dX9_names_99 (by decide) ?_
  refine lv_bipush (v := 24) hx hb dX9_names_101 (by decide) ?_
  refine r_ki hw (r_runS (rest := []) hC hw (c_X9_isIn l _ _ 60 13 24) 3 gX9_names_X9_isIn rfl rfl rfl (by decide +kernel) ⟨Nat.le_of_ble_eq_true rfl, Nat.le_of_ble_eq_true rfl⟩ rfl hl.1 rfl (Nat.le_of_ble_eq_true rfl) dX9_names_103 ⟨Nat.le_of_ble_eq_true rfl, Nat.le_of_ble_eq_true rfl⟩) (fun r_8 u_9 H locs h_7 hw => ?_)
  rw [if_neg (by decide)] at h_7
  subst h_7
  refine lv_if_ne (tgt := 115) hx hb dX9_names_106 (by decide) (fun c_ => absurd (by decide) c_) (fun _ => ?_)
  refine lv_iload_n hx hb dX9_names_109 rfl (lv_at hl 3 rfl) ?_
  refine lv_bipush (v := 26) hx hb dX9_names_110 (by decide) ?_
  refine lv_icmp_ne (tgt := 270) hx hb dX9_names_112 (by decide) (fun _ => ?_) (fun c_ => absurd c_ (by decide))
  refine lv_iload_n hx hb dX9_names_270 rfl (lv_at hl 3 rfl) ?_
  refine lv_bipush (v := 27) hx hb dX9_names_271 (by decide) ?_
  refine lv_icmp_eq (tgt := 282) hx hb dX9_names_273 (by decide) (fun c_ => absurd c_ (by decide)) (fun _ => ?_)
  refine lv_iload_n hx hb dX9_names_276 rfl (lv_at hl 3 rfl) ?_
  refine lv_bipush (v := 29) hx hb dX9_names_277 (by decide) ?_
  refine lv_icmp_ne (tgt := 288) hx hb dX9_names_279 (by decide) (fun _ => ?_) (fun c_ => absurd c_ (by decide))
  refine lv_iload_n hx hb dX9_names_288 rfl (lv_at hl 3 rfl) ?_
  refine lv_bipush (v := 28) hx hb dX9_names_289 (by decide) ?_
  refine lv_icmp_ne (tgt := 302) hx hb dX9_names_291 (by decide) (fun _ => ?_) (fun c_ => absurd c_ (by decide))
  refine lv_iload_n hx hb dX9_names_302 rfl (lv_at hl 3 rfl) ?_
  refine lv_bipush (v := 31) hx hb dX9_names_303 (by decide) ?_
  refine lv_bipush (v := 38) hx hb dX9_names_305 (by decide) ?_
  refine r_ki hw (r_runS (rest := []) hC hw (c_X9_isIn l _ _ 60 31 38) 3 gX9_names_X9_isIn rfl rfl rfl (by decide +kernel) ⟨Nat.le_of_ble_eq_true rfl, Nat.le_of_ble_eq_true rfl⟩ rfl hl.1 rfl (Nat.le_of_ble_eq_true rfl) dX9_names_307 ⟨Nat.le_of_ble_eq_true rfl, Nat.le_of_ble_eq_true rfl⟩) (fun r_11 u_12 H locs h_10 hw => ?_)
  rw [if_neg (by decide)] at h_10
  subst h_10
  refine lv_if_eq (tgt := 411) hx hb dX9_names_310 (by decide) (fun _ => ?_) (fun c_ => absurd (by decide) c_)
  refine lv_iload_n hx hb dX9_names_411 rfl (lv_at hl 3 rfl) ?_
  refine lv_bipush (v := 39) hx hb dX9_names_412 (by decide) ?_
  refine lv_bipush (v := 58) hx hb dX9_names_414 (by decide) ?_
  refine r_ki hw (r_runS (rest := []) hC hw (c_X9_isIn l _ _ 60 39 58) 3 gX9_names_X9_isIn rfl rfl rfl (by decide +kernel) ⟨Nat.le_of_ble_eq_true rfl, Nat.le_of_ble_eq_true rfl⟩ rfl hl.1 rfl (Nat.le_of_ble_eq_true rfl) dX9_names_416 ⟨Nat.le_of_ble_eq_true rfl, Nat.le_of_ble_eq_true rfl⟩) (fun r_14 u_15 H locs h_13 hw => ?_)
  rw [if_neg (by decide)] at h_13
  subst h_13
  refine lv_if_eq (tgt := 483) hx hb dX9_names_419 (by decide) (fun _ => ?_) (fun c_ => absurd (by decide) c_)
  refine lv_iload_n hx hb dX9_names_483 rfl (lv_at hl 3 rfl) ?_
  refine lv_bipush (v := 59) hx hb dX9_names_484 (by decide) ?_
  refine lv_bipush (v := 66) hx hb dX9_names_486 (by decide) ?_
  refine r_ki hw (r_runS (rest := []) hC hw (c_X9_isIn l _ _ 60 59 66) 3 gX9_names_X9_isIn rfl rfl rfl (by decide +kernel) ⟨Nat.le_of_ble_eq_true rfl, Nat.le_of_ble_eq_true rfl⟩ rfl hl.1 rfl (Nat.le_of_ble_eq_true rfl) dX9_names_488 ⟨Nat.le_of_ble_eq_true rfl, Nat.le_of_ble_eq_true rfl⟩) (fun r_17 u_18 H locs h_16 hw => ?_)
  rw [if_pos (by decide)] at h_16
  subst h_16
  refine lv_if_eq (tgt := 546) hx hb dX9_names_491 (by decide) (fun c_ => absurd c_ (by decide)) (fun _ => ?_)
  refine lv_iload_n hx hb dX9_names_494 rfl (lv_at hl 3 rfl) ?_
  refine lv_bipush (v := 61) hx hb dX9_names_495 (by decide) ?_
  refine lv_icmp_eq (tgt := 506) hx hb dX9_names_497 (by decide) (fun c_ => absurd c_ (by decide)) (fun _ => ?_)
  refine lv_iload_n hx hb dX9_names_500 rfl (lv_at hl 3 rfl) ?_
  refine lv_bipush (v := 62) hx hb dX9_names_501 (by decide) ?_
  refine lv_icmp_ne (tgt := 510) hx hb dX9_names_503 (by decide) (fun _ => ?_) (fun c_ => absurd c_ (by decide))
  refine lv_iload_n hx hb dX9_names_510 rfl (lv_at hl 3 rfl) ?_
  refine lv_bipush (v := 63) hx hb dX9_names_511 (by decide) ?_
  refine lv_icmp_eq (tgt := 522) hx hb dX9_names_513 (by decide) (fun c_ => absurd c_ (by decide)) (fun _ => ?_)
  refine lv_iload_n hx hb dX9_names_516 rfl (lv_at hl 3 rfl) ?_
  refine lv_bipush (v := 64) hx hb dX9_names_517 (by decide) ?_
  refine lv_icmp_ne (tgt := 526) hx hb dX9_names_519 (by decide) (fun _ => ?_) (fun c_ => absurd c_ (by decide))
  refine lv_iconst (v := 1) hx hb dX9_names_526 (by decide) ?_
  refine lv_istore_n (lv' := [(2, .int 1), (4, .int 0), (3, .int 0), (0, .int 60), (1, .int wh)]) hx hb dX9_names_527 rfl hl (by decide) rfl (fun ls hl => ?_)
  refine lv_iconst (v := 5) hx hb dX9_names_528 (by decide) ?_
  refine lv_istore_n (lv' := [(3, .int 5), (2, .int 1), (4, .int 0), (0, .int 60), (1, .int wh)]) hx hb dX9_names_529 rfl hl (by decide) rfl (fun ls hl => ?_)
  refine lv_iload_n hx hb dX9_names_530 rfl (lv_at hl 3 rfl) ?_
  refine lv_bipush (v := 65) hx hb dX9_names_531 (by decide) ?_
  refine lv_icmp_lt (tgt := 540) hx hb dX9_names_533 (by decide) (fun _ => ?_) (fun c_ => absurd (by decide) c_)
  refine lv_iconst (v := 0) hx hb dX9_names_540 (by decide) ?_
  refine lv_istore (lv' := [(4, .int 0), (3, .int 5), (2, .int 1), (0, .int 60), (1, .int wh)]) hx hb dX9_names_541 hl (by decide) rfl (fun ls hl => ?_)
  refine lv_goto (tgt := 605) hx hb dX9_names_543 (by decide) ?_
  refine lv_iload_n hx hb dX9_names_605 rfl (lv_at hl 4 rfl) ?_
  refine lv_if_ne (tgt := 613) hx hb dX9_names_606 (by decide) (fun c_19 => ?_) (fun c_19 => ?_)
  · refine lv_iload_n hx hb dX9_names_613 rfl (lv_at hl 4 rfl) ?_
    refine lv_iconst (v := 1) hx hb dX9_names_614 (by decide) ?_
    refine lv_icmp_ne (tgt := 622) hx hb dX9_names_615 (by decide) (fun c_20 => ?_) (fun c_20 => ?_)
    · refine lv_iload hx hb dX9_names_622 (lv_at hl 0 rfl) ?_
      exact r_iret hC hr hlk hw () rfl ((if_neg c_19).trans (if_neg c_20)).symm (Nat.le_of_ble_eq_true rfl) (Nat.le_of_ble_eq_true rfl) dX9_names_624
    · refine lv_iload_n hx hb dX9_names_618 rfl (lv_at hl 1 rfl) ?_
      refine lv_goto (tgt := 624) hx hb dX9_names_619 (by decide) ?_
      exact r_iret hC hr hlk hw () rfl ((if_neg c_19).trans (if_pos c_20)).symm (Nat.le_of_ble_eq_true rfl) (Nat.le_of_ble_eq_true rfl) dX9_names_624
  · refine lv_iload_n hx hb dX9_names_609 rfl (lv_at hl 2 rfl) ?_
    refine lv_goto (tgt := 624) hx hb dX9_names_610 (by decide) ?_
    exact r_iret hC hr hlk hw () rfl (if_pos c_19).symm (Nat.le_of_ble_eq_true rfl) (Nat.le_of_ble_eq_true rfl) dX9_names_624

set_option maxHeartbeats 4000000 in
set_option maxRecDepth 100000 in
theorem c_X9_names_61 (l : Launch) {D : va_G} {q : Nat → ClassId} (w : wT) (sz : Nat) (wh : Int32) : Met l yX9_names wsX9_names (rmz 1 22) (va_Pc [.int 61, .int wh] (rPre D q w sz)) (va_Qi (fun (r : Int32) (u : Unit) => r = if wh = 0 then 2 else if wh = 1 then 5 else 0) (fun (u : Unit) tt => rPo D (rA w sz) w tt) (rA w sz)) 0 0 (rA w sz) := by
  refine r_start (cc := cX9_names) (maxL := 6) (ret := (some .int)) (by decide) rfl (Nat.le_of_ble_eq_true rfl) ?_
  intro p e s m below meth c ls hC hr hlk hnm hsz hw hl
  have hx := hC.1
  have hb := hC.2.1
  have hl : lv_has ls 6 [(0, .int 61), (1, .int wh)] := hl
  refine lv_iconst (v := 0) hx hb dX9_names_0 (by decide) ?_
  refine lv_istore_n (lv' := [(2, .int 0), (0, .int 61), (1, .int wh)]) hx hb dX9_names_1 rfl hl (by decide) rfl (fun ls hl => ?_)
  refine lv_iconst (v := 0) hx hb dX9_names_2 (by decide) ?_
  refine lv_istore_n (lv' := [(3, .int 0), (2, .int 0), (0, .int 61), (1, .int wh)]) hx hb dX9_names_3 rfl hl (by decide) rfl (fun ls hl => ?_)
  refine lv_iconst (v := 0) hx hb dX9_names_4 (by decide) ?_
  refine lv_istore (lv' := [(4, .int 0), (3, .int 0), (2, .int 0), (0, .int 61), (1, .int wh)]) hx hb dX9_names_5 hl (by decide) rfl (fun ls hl => ?_)
  refine lv_iload_n hx hb dX9_names_7 rfl (lv_at hl 3 rfl) ?_
  refine lv_iconst (v := 1) hx hb dX9_names_8 (by decide) ?_
  refine lv_icmp_eq (tgt := 24) hx hb dX9_names_9 (by decide) (fun c_ => absurd c_ (by decide)) (fun _ => ?_)
  refine lv_iload_n hx hb dX9_names_12 rfl (lv_at hl 3 rfl) ?_
  refine lv_bipush (v := 72) hx hb dX9_names_13 (by decide) ?_
  refine lv_icmp_eq (tgt := 24) hx hb dX9_names_15 (by decide) (fun c_ => absurd c_ (by decide)) (fun _ => ?_)
  refine lv_iload_n hx hb dX9_names_18 rfl (lv_at hl 3 rfl) ?_
  refine lv_bipush (v := 73) hx hb dX9_names_19 (by decide) ?_
  refine lv_icmp_ne (tgt := 29) hx hb dX9_names_21 (by decide) (fun _ => ?_) (fun c_ => absurd c_ (by decide))
  refine lv_iload_n hx hb dX9_names_29 rfl (lv_at hl 3 rfl) ?_
  refine lv_iconst (v := 2) hx hb dX9_names_30 (by decide) ?_
  refine lv_icmp_ne (tgt := 39) hx hb dX9_names_31 (by decide) (fun _ => ?_) (fun c_ => absurd c_ (by decide))
  refine lv_iload_n hx hb dX9_names_39 rfl (lv_at hl 3 rfl) ?_
  refine lv_iconst (v := 3) hx hb dX9_names_40 (by decide) ?_
  refine lv_icmp_ne (tgt := 51) hx hb dX9_names_41 (by decide) (fun _ => ?_) (fun c_ => absurd c_ (by decide))
  refine lv_iload_n hx hb dX9_names_51 rfl (lv_at hl 3 rfl) ?_
  refine lv_iconst (v := 4) hx hb dX9_names_52 (by decide) ?_
  refine lv_bipush (v := 8) hx hb dX9_names_53 (by decide) ?_
  refine r_ki hw (r_runS (rest := []) hC hw (c_X9_isIn l _ _ 61 4 8) 3 gX9_names_X9_isIn rfl rfl rfl (by decide +kernel) ⟨Nat.le_of_ble_eq_true rfl, Nat.le_of_ble_eq_true rfl⟩ rfl hl.1 rfl (Nat.le_of_ble_eq_true rfl) dX9_names_55 ⟨Nat.le_of_ble_eq_true rfl, Nat.le_of_ble_eq_true rfl⟩) (fun r_2 u_3 H locs h_1 hw => ?_)
  rw [if_neg (by decide)] at h_1
  subst h_1
  refine lv_if_ne (tgt := 67) hx hb dX9_names_58 (by decide) (fun c_ => absurd (by decide) c_) (fun _ => ?_)
  refine lv_iload_n hx hb dX9_names_61 rfl (lv_at hl 3 rfl) ?_
  refine lv_bipush (v := 25) hx hb dX9_names_62 (by decide) ?_
  refine lv_icmp_ne (tgt := 77) hx hb dX9_names_64 (by decide) (fun _ => ?_) (fun c_ => absurd c_ (by decide))
  refine lv_iload_n hx hb dX9_names_77 rfl (lv_at hl 3 rfl) ?_
  refine lv_bipush (v := 9) hx hb dX9_names_78 (by decide) ?_
  refine lv_bipush (v := 12) hx hb dX9_names_80 (by decide) ?_
  refine r_ki hw (r_runS (rest := []) hC hw (c_X9_isIn l _ _ 61 9 12) 3 gX9_names_X9_isIn rfl rfl rfl (by decide +kernel) ⟨Nat.le_of_ble_eq_true rfl, Nat.le_of_ble_eq_true rfl⟩ rfl hl.1 rfl (Nat.le_of_ble_eq_true rfl) dX9_names_82 ⟨Nat.le_of_ble_eq_true rfl, Nat.le_of_ble_eq_true rfl⟩) (fun r_5 u_6 H locs h_4 hw => ?_)
  rw [if_neg (by decide)] at h_4
  subst h_4
  refine lv_if_eq (tgt := 98) hx hb dX9_names_85 (by decide) (fun _ => ?_) (fun c_ => absurd (by decide) c_)
  refine lv_iload_n hx hb dX9_names_98 rfl (lv_at hl 3 rfl) ?_
  refine lv_bipush (v := 13) hx hb dX9_names_99 (by decide) ?_
  refine lv_bipush (v := 24) hx hb dX9_names_101 (by decide) ?_
  refine r_ki hw (r_runS (rest := []) hC hw (c_X9_isIn l _ _ 61 13 24) 3 gX9_names_X9_isIn rfl rfl rfl (by decide +kernel) ⟨Nat.le_of_ble_eq_true rfl, Nat.le_of_ble_eq_true rfl⟩ rfl hl.1 rfl (Nat.le_of_ble_eq_true rfl) dX9_names_103 ⟨Nat.le_of_ble_eq_true rfl, Nat.le_of_ble_eq_true rfl⟩) (fun r_8 u_9 H locs h_7 hw => ?_)
  rw [if_neg (by decide)] at h_7
  subst h_7
  refine lv_if_ne (tgt := 115) hx hb dX9_names_106 (by decide) (fun c_ => absurd (by decide) c_) (fun _ => ?_)
  refine lv_iload_n hx hb dX9_names_109 rfl (lv_at hl 3 rfl) ?_
  refine lv_bipush (v := 26) hx hb dX9_names_110 (by decide) ?_
  refine lv_icmp_ne (tgt := 270) hx hb dX9_names_112 (by decide) (fun _ => ?_) (fun c_ => absurd c_ (by decide))
  refine lv_iload_n hx hb dX9_names_270 rfl (lv_at hl 3 rfl) ?_
  refine lv_bipush (v := 27) hx hb dX9_names_271 (by decide) ?_
  refine lv_icmp_eq (tgt := 282) hx hb dX9_names_273 (by decide) (fun c_ => absurd c_ (by decide)) (fun _ => ?_)
  refine lv_iload_n hx hb dX9_names_276 rfl (lv_at hl 3 rfl) ?_
  refine lv_bipush (v := 29) hx hb dX9_names_277 (by decide) ?_
  refine lv_icmp_ne (tgt := 288) hx hb dX9_names_279 (by decide) (fun _ => ?_) (fun c_ => absurd c_ (by decide))
  refine lv_iload_n hx hb dX9_names_288 rfl (lv_at hl 3 rfl) ?_
  refine lv_bipush (v := 28) hx hb dX9_names_289 (by decide) ?_
  refine lv_icmp_ne (tgt := 302) hx hb dX9_names_291 (by decide) (fun _ => ?_) (fun c_ => absurd c_ (by decide))
  refine lv_iload_n hx hb dX9_names_302 rfl (lv_at hl 3 rfl) ?_
  refine lv_bipush (v := 31) hx hb dX9_names_303 (by decide) ?_
  refine lv_bipush (v := 38) hx hb dX9_names_305 (by decide) ?_
  refine r_ki hw (r_runS (rest := []) hC hw (c_X9_isIn l _ _ 61 31 38) 3 gX9_names_X9_isIn rfl rfl rfl (by decide +kernel) ⟨Nat.le_of_ble_eq_true rfl, Nat.le_of_ble_eq_true rfl⟩ rfl hl.1 rfl (Nat.le_of_ble_eq_true rfl) dX9_names_307 ⟨Nat.le_of_ble_eq_true rfl, Nat.le_of_ble_eq_true rfl⟩) (fun r_11 u_12 H locs h_10 hw => ?_)
  rw [if_neg (by decide)] at h_10
  subst h_10
  refine lv_if_eq (tgt := 411) hx hb dX9_names_310 (by decide) (fun _ => ?_) (fun c_ => absurd (by decide) c_)
  refine lv_iload_n hx hb dX9_names_411 rfl (lv_at hl 3 rfl) ?_
  refine lv_bipush (v := 39) hx hb dX9_names_412 (by decide) ?_
  refine lv_bipush (v := 58) hx hb dX9_names_414 (by decide) ?_
  refine r_ki hw (r_runS (rest := []) hC hw (c_X9_isIn l _ _ 61 39 58) 3 gX9_names_X9_isIn rfl rfl rfl (by decide +kernel) ⟨Nat.le_of_ble_eq_true rfl, Nat.le_of_ble_eq_true rfl⟩ rfl hl.1 rfl (Nat.le_of_ble_eq_true rfl) dX9_names_416 ⟨Nat.le_of_ble_eq_true rfl, Nat.le_of_ble_eq_true rfl⟩) (fun r_14 u_15 H locs h_13 hw => ?_)
  rw [if_neg (by decide)] at h_13
  subst h_13
  refine lv_if_eq (tgt := 483) hx hb dX9_names_419 (by decide) (fun _ => ?_) (fun c_ => absurd (by decide) c_)
  refine lv_iload_n hx hb dX9_names_483 rfl (lv_at hl 3 rfl) ?_
  refine lv_bipush (v := 59) hx hb dX9_names_484 (by decide) ?_
  refine lv_bipush (v := 66) hx hb dX9_names_486 (by decide) ?_
  refine r_ki hw (r_runS (rest := []) hC hw (c_X9_isIn l _ _ 61 59 66) 3 gX9_names_X9_isIn rfl rfl rfl (by decide +kernel) ⟨Nat.le_of_ble_eq_true rfl, Nat.le_of_ble_eq_true rfl⟩ rfl hl.1 rfl (Nat.le_of_ble_eq_true rfl) dX9_names_488 ⟨Nat.le_of_ble_eq_true rfl, Nat.le_of_ble_eq_true rfl⟩) (fun r_17 u_18 H locs h_16 hw => ?_)
  rw [if_pos (by decide)] at h_16
  subst h_16
  refine lv_if_eq (tgt := 546) hx hb dX9_names_491 (by decide) (fun c_ => absurd c_ (by decide)) (fun _ => ?_)
  refine lv_iload_n hx hb dX9_names_494 rfl (lv_at hl 3 rfl) ?_
  refine lv_bipush (v := 61) hx hb dX9_names_495 (by decide) ?_
  refine lv_icmp_eq (tgt := 506) hx hb dX9_names_497 (by decide) (fun _ => ?_) (fun c_ => absurd (by decide) c_)
  refine lv_iconst (v := 2) hx hb dX9_names_506 (by decide) ?_
  refine lv_goto (tgt := 527) hx hb dX9_names_507 (by decide) ?_
  refine lv_istore_n (lv' := [(2, .int 2), (4, .int 0), (3, .int 0), (0, .int 61), (1, .int wh)]) hx hb dX9_names_527 rfl hl (by decide) rfl (fun ls hl => ?_)
  refine lv_iconst (v := 5) hx hb dX9_names_528 (by decide) ?_
  refine lv_istore_n (lv' := [(3, .int 5), (2, .int 2), (4, .int 0), (0, .int 61), (1, .int wh)]) hx hb dX9_names_529 rfl hl (by decide) rfl (fun ls hl => ?_)
  refine lv_iload_n hx hb dX9_names_530 rfl (lv_at hl 3 rfl) ?_
  refine lv_bipush (v := 65) hx hb dX9_names_531 (by decide) ?_
  refine lv_icmp_lt (tgt := 540) hx hb dX9_names_533 (by decide) (fun _ => ?_) (fun c_ => absurd (by decide) c_)
  refine lv_iconst (v := 0) hx hb dX9_names_540 (by decide) ?_
  refine lv_istore (lv' := [(4, .int 0), (3, .int 5), (2, .int 2), (0, .int 61), (1, .int wh)]) hx hb dX9_names_541 hl (by decide) rfl (fun ls hl => ?_)
  refine lv_goto (tgt := 605) hx hb dX9_names_543 (by decide) ?_
  refine lv_iload_n hx hb dX9_names_605 rfl (lv_at hl 4 rfl) ?_
  refine lv_if_ne (tgt := 613) hx hb dX9_names_606 (by decide) (fun c_19 => ?_) (fun c_19 => ?_)
  · refine lv_iload_n hx hb dX9_names_613 rfl (lv_at hl 4 rfl) ?_
    refine lv_iconst (v := 1) hx hb dX9_names_614 (by decide) ?_
    refine lv_icmp_ne (tgt := 622) hx hb dX9_names_615 (by decide) (fun c_20 => ?_) (fun c_20 => ?_)
    · refine lv_iload hx hb dX9_names_622 (lv_at hl 0 rfl) ?_
      exact r_iret hC hr hlk hw () rfl ((if_neg c_19).trans (if_neg c_20)).symm (Nat.le_of_ble_eq_true rfl) (Nat.le_of_ble_eq_true rfl) dX9_names_624
    · refine lv_iload_n hx hb dX9_names_618 rfl (lv_at hl 1 rfl) ?_
      refine lv_goto (tgt := 624) hx hb dX9_names_619 (by decide) ?_
      exact r_iret hC hr hlk hw () rfl ((if_neg c_19).trans (if_pos c_20)).symm (Nat.le_of_ble_eq_true rfl) (Nat.le_of_ble_eq_true rfl) dX9_names_624
  · refine lv_iload_n hx hb dX9_names_609 rfl (lv_at hl 2 rfl) ?_
    refine lv_goto (tgt := 624) hx hb dX9_names_610 (by decide) ?_
    exact r_iret hC hr hlk hw () rfl (if_pos c_19).symm (Nat.le_of_ble_eq_true rfl) (Nat.le_of_ble_eq_true rfl) dX9_names_624

set_option maxHeartbeats 4000000 in
set_option maxRecDepth 100000 in
theorem c_X9_names_62 (l : Launch) {D : va_G} {q : Nat → ClassId} (w : wT) (sz : Nat) (wh : Int32) : Met l yX9_names wsX9_names (rmz 1 22) (va_Pc [.int 62, .int wh] (rPre D q w sz)) (va_Qi (fun (r : Int32) (u : Unit) => r = if wh = 0 then 2 else if wh = 1 then 5 else 0) (fun (u : Unit) tt => rPo D (rA w sz) w tt) (rA w sz)) 0 0 (rA w sz) := by
  refine r_start (cc := cX9_names) (maxL := 6) (ret := (some .int)) (by decide) rfl (Nat.le_of_ble_eq_true rfl) ?_
  intro p e s m below meth c ls hC hr hlk hnm hsz hw hl
  have hx := hC.1
  have hb := hC.2.1
  have hl : lv_has ls 6 [(0, .int 62), (1, .int wh)] := hl
  refine lv_iconst (v := 0) hx hb dX9_names_0 (by decide) ?_
  refine lv_istore_n (lv' := [(2, .int 0), (0, .int 62), (1, .int wh)]) hx hb dX9_names_1 rfl hl (by decide) rfl (fun ls hl => ?_)
  refine lv_iconst (v := 0) hx hb dX9_names_2 (by decide) ?_
  refine lv_istore_n (lv' := [(3, .int 0), (2, .int 0), (0, .int 62), (1, .int wh)]) hx hb dX9_names_3 rfl hl (by decide) rfl (fun ls hl => ?_)
  refine lv_iconst (v := 0) hx hb dX9_names_4 (by decide) ?_
  refine lv_istore (lv' := [(4, .int 0), (3, .int 0), (2, .int 0), (0, .int 62), (1, .int wh)]) hx hb dX9_names_5 hl (by decide) rfl (fun ls hl => ?_)
  refine lv_iload_n hx hb dX9_names_7 rfl (lv_at hl 3 rfl) ?_
  refine lv_iconst (v := 1) hx hb dX9_names_8 (by decide) ?_
  refine lv_icmp_eq (tgt := 24) hx hb dX9_names_9 (by decide) (fun c_ => absurd c_ (by decide)) (fun _ => ?_)
  refine lv_iload_n hx hb dX9_names_12 rfl (lv_at hl 3 rfl) ?_
  refine lv_bipush (v := 72) hx hb dX9_names_13 (by decide) ?_
  refine lv_icmp_eq (tgt := 24) hx hb dX9_names_15 (by decide) (fun c_ => absurd c_ (by decide)) (fun _ => ?_)
  refine lv_iload_n hx hb dX9_names_18 rfl (lv_at hl 3 rfl) ?_
  refine lv_bipush (v := 73) hx hb dX9_names_19 (by decide) ?_
  refine lv_icmp_ne (tgt := 29) hx hb dX9_names_21 (by decide) (fun _ => ?_) (fun c_ => absurd c_ (by decide))
  refine lv_iload_n hx hb dX9_names_29 rfl (lv_at hl 3 rfl) ?_
  refine lv_iconst (v := 2) hx hb dX9_names_30 (by decide) ?_
  refine lv_icmp_ne (tgt := 39) hx hb dX9_names_31 (by decide) (fun _ => ?_) (fun c_ => absurd c_ (by decide))
  refine lv_iload_n hx hb dX9_names_39 rfl (lv_at hl 3 rfl) ?_
  refine lv_iconst (v := 3) hx hb dX9_names_40 (by decide) ?_
  refine lv_icmp_ne (tgt := 51) hx hb dX9_names_41 (by decide) (fun _ => ?_) (fun c_ => absurd c_ (by decide))
  refine lv_iload_n hx hb dX9_names_51 rfl (lv_at hl 3 rfl) ?_
  refine lv_iconst (v := 4) hx hb dX9_names_52 (by decide) ?_
  refine lv_bipush (v := 8) hx hb dX9_names_53 (by decide) ?_
  refine r_ki hw (r_runS (rest := []) hC hw (c_X9_isIn l _ _ 62 4 8) 3 gX9_names_X9_isIn rfl rfl rfl (by decide +kernel) ⟨Nat.le_of_ble_eq_true rfl, Nat.le_of_ble_eq_true rfl⟩ rfl hl.1 rfl (Nat.le_of_ble_eq_true rfl) dX9_names_55 ⟨Nat.le_of_ble_eq_true rfl, Nat.le_of_ble_eq_true rfl⟩) (fun r_2 u_3 H locs h_1 hw => ?_)
  rw [if_neg (by decide)] at h_1
  subst h_1
  refine lv_if_ne (tgt := 67) hx hb dX9_names_58 (by decide) (fun c_ => absurd (by decide) c_) (fun _ => ?_)
  refine lv_iload_n hx hb dX9_names_61 rfl (lv_at hl 3 rfl) ?_
  refine lv_bipush (v := 25) hx hb dX9_names_62 (by decide) ?_
  refine lv_icmp_ne (tgt := 77) hx hb dX9_names_64 (by decide) (fun _ => ?_) (fun c_ => absurd c_ (by decide))
  refine lv_iload_n hx hb dX9_names_77 rfl (lv_at hl 3 rfl) ?_
  refine lv_bipush (v := 9) hx hb dX9_names_78 (by decide) ?_
  refine lv_bipush (v := 12) hx hb dX9_names_80 (by decide) ?_
  refine r_ki hw (r_runS (rest := []) hC hw (c_X9_isIn l _ _ 62 9 12) 3 gX9_names_X9_isIn rfl rfl rfl (by decide +kernel) ⟨Nat.le_of_ble_eq_true rfl, Nat.le_of_ble_eq_true rfl⟩ rfl hl.1 rfl (Nat.le_of_ble_eq_true rfl) dX9_names_82 ⟨Nat.le_of_ble_eq_true rfl, Nat.le_of_ble_eq_true rfl⟩) (fun r_5 u_6 H locs h_4 hw => ?_)
  rw [if_neg (by decide)] at h_4
  subst h_4
  refine lv_if_eq (tgt := 98) hx hb dX9_names_85 (by decide) (fun _ => ?_) (fun c_ => absurd (by decide) c_)
  refine lv_iload_n hx hb dX9_names_98 rfl (lv_at hl 3 rfl) ?_
  refine lv_bipush (v := 13) hx hb dX9_names_99 (by decide) ?_
  refine lv_bipush (v := 24) hx hb dX9_names_101 (by decide) ?_
  refine r_ki hw (r_runS (rest := []) hC hw (c_X9_isIn l _ _ 62 13 24) 3 gX9_names_X9_isIn rfl rfl rfl (by decide +kernel) ⟨Nat.le_of_ble_eq_true rfl, Nat.le_of_ble_eq_true rfl⟩ rfl hl.1 rfl (Nat.le_of_ble_eq_true rfl) dX9_names_103 ⟨Nat.le_of_ble_eq_true rfl, Nat.le_of_ble_eq_true rfl⟩) (fun r_8 u_9 H locs h_7 hw => ?_)
  rw [if_neg (by decide)] at h_7
  subst h_7
  refine lv_if_ne (tgt := 115) hx hb dX9_names_106 (by decide) (fun c_ => absurd (by decide) c_) (fun _ => ?_)
  refine lv_iload_n hx hb dX9_names_109 rfl (lv_at hl 3 rfl) ?_
  refine lv_bipush (v := 26) hx hb dX9_names_110 (by decide) ?_
  refine lv_icmp_ne (tgt := 270) hx hb dX9_names_112 (by decide) (fun _ => ?_) (fun c_ => absurd c_ (by decide))
  refine lv_iload_n hx hb dX9_names_270 rfl (lv_at hl 3 rfl) ?_
  refine lv_bipush (v := 27) hx hb dX9_names_271 (by decide) ?_
  refine lv_icmp_eq (tgt := 282) hx hb dX9_names_273 (by decide) (fun c_ => absurd c_ (by decide)) (fun _ => ?_)
  refine lv_iload_n hx hb dX9_names_276 rfl (lv_at hl 3 rfl) ?_
  refine lv_bipush (v := 29) hx hb dX9_names_277 (by decide) ?_
  refine lv_icmp_ne (tgt := 288) hx hb dX9_names_279 (by decide) (fun _ => ?_) (fun c_ => absurd c_ (by decide))
  refine lv_iload_n hx hb dX9_names_288 rfl (lv_at hl 3 rfl) ?_
  refine lv_bipush (v := 28) hx hb dX9_names_289 (by decide) ?_
  refine lv_icmp_ne (tgt := 302) hx hb dX9_names_291 (by decide) (fun _ => ?_) (fun c_ => absurd c_ (by decide))
  refine lv_iload_n hx hb dX9_names_302 rfl (lv_at hl 3 rfl) ?_
  refine lv_bipush (v := 31) hx hb dX9_names_303 (by decide) ?_
  refine lv_bipush (v := 38) hx hb dX9_names_305 (by decide) ?_
  refine r_ki hw (r_runS (rest := []) hC hw (c_X9_isIn l _ _ 62 31 38) 3 gX9_names_X9_isIn rfl rfl rfl (by decide +kernel) ⟨Nat.le_of_ble_eq_true rfl, Nat.le_of_ble_eq_true rfl⟩ rfl hl.1 rfl (Nat.le_of_ble_eq_true rfl) dX9_names_307 ⟨Nat.le_of_ble_eq_true rfl, Nat.le_of_ble_eq_true rfl⟩) (fun r_11 u_12 H locs h_10 hw => ?_)
  rw [if_neg (by decide)] at h_10
  subst h_10
  refine lv_if_eq (tgt := 411) hx hb dX9_names_310 (by decide) (fun _ => ?_) (fun c_ => absurd (by decide) c_)
  refine lv_iload_n hx hb dX9_names_411 rfl (lv_at hl 3 rfl) ?_
  refine lv_bipush (v := 39) hx hb dX9_names_412 (by decide) ?_
  refine lv_bipush (v := 58) hx hb dX9_names_414 (by decide) ?_
  refine r_ki hw (r_runS (rest := []) hC hw (c_X9_isIn l _ _ 62 39 58) 3 gX9_names_X9_isIn rfl rfl rfl (by decide +kernel) ⟨Nat.le_of_ble_eq_true rfl, Nat.le_of_ble_eq_true rfl⟩ rfl hl.1 rfl (Nat.le_of_ble_eq_true rfl) dX9_names_416 ⟨Nat.le_of_ble_eq_true rfl, Nat.le_of_ble_eq_true rfl⟩) (fun r_14 u_15 H locs h_13 hw => ?_)
  rw [if_neg (by decide)] at h_13
  subst h_13
  refine lv_if_eq (tgt := 483) hx hb dX9_names_419 (by decide) (fun _ => ?_) (fun c_ => absurd (by decide) c_)
  refine lv_iload_n hx hb dX9_names_483 rfl (lv_at hl 3 rfl) ?_
  refine lv_bipush (v := 59) hx hb dX9_names_484 (by decide) ?_
  refine lv_bipush (v := 66) hx hb dX9_names_486 (by decide) ?_
  refine r_ki hw (r_runS (rest := []) hC hw (c_X9_isIn l _ _ 62 59 66) 3 gX9_names_X9_isIn rfl rfl rfl (by decide +kernel) ⟨Nat.le_of_ble_eq_true rfl, Nat.le_of_ble_eq_true rfl⟩ rfl hl.1 rfl (Nat.le_of_ble_eq_true rfl) dX9_names_488 ⟨Nat.le_of_ble_eq_true rfl, Nat.le_of_ble_eq_true rfl⟩) (fun r_17 u_18 H locs h_16 hw => ?_)
  rw [if_pos (by decide)] at h_16
  subst h_16
  refine lv_if_eq (tgt := 546) hx hb dX9_names_491 (by decide) (fun c_ => absurd c_ (by decide)) (fun _ => ?_)
  refine lv_iload_n hx hb dX9_names_494 rfl (lv_at hl 3 rfl) ?_
  refine lv_bipush (v := 61) hx hb dX9_names_495 (by decide) ?_
  refine lv_icmp_eq (tgt := 506) hx hb dX9_names_497 (by decide) (fun c_ => absurd c_ (by decide)) (fun _ => ?_)
  refine lv_iload_n hx hb dX9_names_500 rfl (lv_at hl 3 rfl) ?_
  refine lv_bipush (v := 62) hx hb dX9_names_501 (by decide) ?_
  refine lv_icmp_ne (tgt := 510) hx hb dX9_names_503 (by decide) (fun c_ => absurd (by decide) c_) (fun _ => ?_)
  refine lv_iconst (v := 2) hx hb dX9_names_506 (by decide) ?_
  refine lv_goto (tgt := 527) hx hb dX9_names_507 (by decide) ?_
  refine lv_istore_n (lv' := [(2, .int 2), (4, .int 0), (3, .int 0), (0, .int 62), (1, .int wh)]) hx hb dX9_names_527 rfl hl (by decide) rfl (fun ls hl => ?_)
  refine lv_iconst (v := 5) hx hb dX9_names_528 (by decide) ?_
  refine lv_istore_n (lv' := [(3, .int 5), (2, .int 2), (4, .int 0), (0, .int 62), (1, .int wh)]) hx hb dX9_names_529 rfl hl (by decide) rfl (fun ls hl => ?_)
  refine lv_iload_n hx hb dX9_names_530 rfl (lv_at hl 3 rfl) ?_
  refine lv_bipush (v := 65) hx hb dX9_names_531 (by decide) ?_
  refine lv_icmp_lt (tgt := 540) hx hb dX9_names_533 (by decide) (fun _ => ?_) (fun c_ => absurd (by decide) c_)
  refine lv_iconst (v := 0) hx hb dX9_names_540 (by decide) ?_
  refine lv_istore (lv' := [(4, .int 0), (3, .int 5), (2, .int 2), (0, .int 62), (1, .int wh)]) hx hb dX9_names_541 hl (by decide) rfl (fun ls hl => ?_)
  refine lv_goto (tgt := 605) hx hb dX9_names_543 (by decide) ?_
  refine lv_iload_n hx hb dX9_names_605 rfl (lv_at hl 4 rfl) ?_
  refine lv_if_ne (tgt := 613) hx hb dX9_names_606 (by decide) (fun c_19 => ?_) (fun c_19 => ?_)
  · refine lv_iload_n hx hb dX9_names_613 rfl (lv_at hl 4 rfl) ?_
    refine lv_iconst (v := 1) hx hb dX9_names_614 (by decide) ?_
    refine lv_icmp_ne (tgt := 622) hx hb dX9_names_615 (by decide) (fun c_20 => ?_) (fun c_20 => ?_)
    · refine lv_iload hx hb dX9_names_622 (lv_at hl 0 rfl) ?_
      exact r_iret hC hr hlk hw () rfl ((if_neg c_19).trans (if_neg c_20)).symm (Nat.le_of_ble_eq_true rfl) (Nat.le_of_ble_eq_true rfl) dX9_names_624
    · refine lv_iload_n hx hb dX9_names_618 rfl (lv_at hl 1 rfl) ?_
      refine lv_goto (tgt := 624) hx hb dX9_names_619 (by decide) ?_
      exact r_iret hC hr hlk hw () rfl ((if_neg c_19).trans (if_pos c_20)).symm (Nat.le_of_ble_eq_true rfl) (Nat.le_of_ble_eq_true rfl) dX9_names_624
  · refine lv_iload_n hx hb dX9_names_609 rfl (lv_at hl 2 rfl) ?_
    refine lv_goto (tgt := 624) hx hb dX9_names_610 (by decide) ?_
    exact r_iret hC hr hlk hw () rfl (if_pos c_19).symm (Nat.le_of_ble_eq_true rfl) (Nat.le_of_ble_eq_true rfl) dX9_names_624

set_option maxHeartbeats 4000000 in
set_option maxRecDepth 100000 in
theorem c_X9_names_63 (l : Launch) {D : va_G} {q : Nat → ClassId} (w : wT) (sz : Nat) (wh : Int32) : Met l yX9_names wsX9_names (rmz 1 22) (va_Pc [.int 63, .int wh] (rPre D q w sz)) (va_Qi (fun (r : Int32) (u : Unit) => r = if wh = 0 then 5 else if wh = 1 then 5 else 0) (fun (u : Unit) tt => rPo D (rA w sz) w tt) (rA w sz)) 0 0 (rA w sz) := by
  refine r_start (cc := cX9_names) (maxL := 6) (ret := (some .int)) (by decide) rfl (Nat.le_of_ble_eq_true rfl) ?_
  intro p e s m below meth c ls hC hr hlk hnm hsz hw hl
  have hx := hC.1
  have hb := hC.2.1
  have hl : lv_has ls 6 [(0, .int 63), (1, .int wh)] := hl
  refine lv_iconst (v := 0) hx hb dX9_names_0 (by decide) ?_
  refine lv_istore_n (lv' := [(2, .int 0), (0, .int 63), (1, .int wh)]) hx hb dX9_names_1 rfl hl (by decide) rfl (fun ls hl => ?_)
  refine lv_iconst (v := 0) hx hb dX9_names_2 (by decide) ?_
  refine lv_istore_n (lv' := [(3, .int 0), (2, .int 0), (0, .int 63), (1, .int wh)]) hx hb dX9_names_3 rfl hl (by decide) rfl (fun ls hl => ?_)
  refine lv_iconst (v := 0) hx hb dX9_names_4 (by decide) ?_
  refine lv_istore (lv' := [(4, .int 0), (3, .int 0), (2, .int 0), (0, .int 63), (1, .int wh)]) hx hb dX9_names_5 hl (by decide) rfl (fun ls hl => ?_)
  refine lv_iload_n hx hb dX9_names_7 rfl (lv_at hl 3 rfl) ?_
  refine lv_iconst (v := 1) hx hb dX9_names_8 (by decide) ?_
  refine lv_icmp_eq (tgt := 24) hx hb dX9_names_9 (by decide) (fun c_ => absurd c_ (by decide)) (fun _ => ?_)
  refine lv_iload_n hx hb dX9_names_12 rfl (lv_at hl 3 rfl) ?_
  refine lv_bipush (v := 72) hx hb dX9_names_13 (by decide) ?_
  refine lv_icmp_eq (tgt := 24) hx hb dX9_names_15 (by decide) (fun c_ => absurd c_ (by decide)) (fun _ => ?_)
  refine lv_iload_n hx hb dX9_names_18 rfl (lv_at hl 3 rfl) ?_
  refine lv_bipush (v := 73) hx hb dX9_names_19 (by decide) ?_
  refine lv_icmp_ne (tgt := 29) hx hb dX9_names_21 (by decide) (fun _ => ?_) (fun c_ => absurd c_ (by decide))
  refine lv_iload_n hx hb dX9_names_29 rfl (lv_at hl 3 rfl) ?_
  refine lv_iconst (v := 2) hx hb dX9_names_30 (by decide) ?_
  refine lv_icmp_ne (tgt := 39) hx hb dX9_names_31 (by decide) (fun _ => ?_) (fun c_ => absurd c_ (by decide))
  refine lv_iload_n hx hb dX9_names_39 rfl (lv_at hl 3 rfl) ?_
  refine lv_iconst (v := 3) hx hb dX9_names_40 (by decide) ?_
  refine lv_icmp_ne (tgt := 51) hx hb dX9_names_41 (by decide) (fun _ => ?_) (fun c_ => absurd c_ (by decide))
  refine lv_iload_n hx hb dX9_names_51 rfl (lv_at hl 3 rfl) ?_
  refine lv_iconst (v := 4) hx hb dX9_names_52 (by decide) ?_
  refine lv_bipush (v := 8) hx hb dX9_names_53 (by decide) ?_
  refine r_ki hw (r_runS (rest := []) hC hw (c_X9_isIn l _ _ 63 4 8) 3 gX9_names_X9_isIn rfl rfl rfl (by decide +kernel) ⟨Nat.le_of_ble_eq_true rfl, Nat.le_of_ble_eq_true rfl⟩ rfl hl.1 rfl (Nat.le_of_ble_eq_true rfl) dX9_names_55 ⟨Nat.le_of_ble_eq_true rfl, Nat.le_of_ble_eq_true rfl⟩) (fun r_2 u_3 H locs h_1 hw => ?_)
  rw [if_neg (by decide)] at h_1
  subst h_1
  refine lv_if_ne (tgt := 67) hx hb dX9_names_58 (by decide) (fun c_ => absurd (by decide) c_) (fun _ => ?_)
  refine lv_iload_n hx hb dX9_names_61 rfl (lv_at hl 3 rfl) ?_
  refine lv_bipush (v := 25) hx hb dX9_names_62 (by decide) ?_
  refine lv_icmp_ne (tgt := 77) hx hb dX9_names_64 (by decide) (fun _ => ?_) (fun c_ => absurd c_ (by decide))
  refine lv_iload_n hx hb dX9_names_77 rfl (lv_at hl 3 rfl) ?_
  refine lv_bipush (v := 9) hx hb dX9_names_78 (by decide) ?_
  refine lv_bipush (v := 12) hx hb dX9_names_80 (by decide) ?_
  refine r_ki hw (r_runS (rest := []) hC hw (c_X9_isIn l _ _ 63 9 12) 3 gX9_names_X9_isIn rfl rfl rfl (by decide +kernel) ⟨Nat.le_of_ble_eq_true rfl, Nat.le_of_ble_eq_true rfl⟩ rfl hl.1 rfl (Nat.le_of_ble_eq_true rfl) dX9_names_82 ⟨Nat.le_of_ble_eq_true rfl, Nat.le_of_ble_eq_true rfl⟩) (fun r_5 u_6 H locs h_4 hw => ?_)
  rw [if_neg (by decide)] at h_4
  subst h_4
  refine lv_if_eq (tgt := 98) hx hb dX9_names_85 (by decide) (fun _ => ?_) (fun c_ => absurd (by decide) c_)
  refine lv_iload_n hx hb dX9_names_98 rfl (lv_at hl 3 rfl) ?_
  refine lv_bipush (v := 13) hx hb dX9_names_99 (by decide) ?_
  refine lv_bipush (v := 24) hx hb dX9_names_101 (by decide) ?_
  refine r_ki hw (r_runS (rest := []) hC hw (c_X9_isIn l _ _ 63 13 24) 3 gX9_names_X9_isIn rfl rfl rfl (by decide +kernel) ⟨Nat.le_of_ble_eq_true rfl, Nat.le_of_ble_eq_true rfl⟩ rfl hl.1 rfl (Nat.le_of_ble_eq_true rfl) dX9_names_103 ⟨Nat.le_of_ble_eq_true rfl, Nat.le_of_ble_eq_true rfl⟩) (fun r_8 u_9 H locs h_7 hw => ?_)
  rw [if_neg (by decide)] at h_7
  subst h_7
  refine lv_if_ne (tgt := 115) hx hb dX9_names_106 (by decide) (fun c_ => absurd (by decide) c_) (fun _ => ?_)
  refine lv_iload_n hx hb dX9_names_109 rfl (lv_at hl 3 rfl) ?_
  refine lv_bipush (v := 26) hx hb dX9_names_110 (by decide) ?_
  refine lv_icmp_ne (tgt := 270) hx hb dX9_names_112 (by decide) (fun _ => ?_) (fun c_ => absurd c_ (by decide))
  refine lv_iload_n hx hb dX9_names_270 rfl (lv_at hl 3 rfl) ?_
  refine lv_bipush (v := 27) hx hb dX9_names_271 (by decide) ?_
  refine lv_icmp_eq (tgt := 282) hx hb dX9_names_273 (by decide) (fun c_ => absurd c_ (by decide)) (fun _ => ?_)
  refine lv_iload_n hx hb dX9_names_276 rfl (lv_at hl 3 rfl) ?_
  refine lv_bipush (v := 29) hx hb dX9_names_277 (by decide) ?_
  refine lv_icmp_ne (tgt := 288) hx hb dX9_names_279 (by decide) (fun _ => ?_) (fun c_ => absurd c_ (by decide))
  refine lv_iload_n hx hb dX9_names_288 rfl (lv_at hl 3 rfl) ?_
  refine lv_bipush (v := 28) hx hb dX9_names_289 (by decide) ?_
  refine lv_icmp_ne (tgt := 302) hx hb dX9_names_291 (by decide) (fun _ => ?_) (fun c_ => absurd c_ (by decide))
  refine lv_iload_n hx hb dX9_names_302 rfl (lv_at hl 3 rfl) ?_
  refine lv_bipush (v := 31) hx hb dX9_names_303 (by decide) ?_
  refine lv_bipush (v := 38) hx hb dX9_names_305 (by decide) ?_
  refine r_ki hw (r_runS (rest := []) hC hw (c_X9_isIn l _ _ 63 31 38) 3 gX9_names_X9_isIn rfl rfl rfl (by decide +kernel) ⟨Nat.le_of_ble_eq_true rfl, Nat.le_of_ble_eq_true rfl⟩ rfl hl.1 rfl (Nat.le_of_ble_eq_true rfl) dX9_names_307 ⟨Nat.le_of_ble_eq_true rfl, Nat.le_of_ble_eq_true rfl⟩) (fun r_11 u_12 H locs h_10 hw => ?_)
  rw [if_neg (by decide)] at h_10
  subst h_10
  refine lv_if_eq (tgt := 411) hx hb dX9_names_310 (by decide) (fun _ => ?_) (fun c_ => absurd (by decide) c_)
  refine lv_iload_n hx hb dX9_names_411 rfl (lv_at hl 3 rfl) ?_
  refine lv_bipush (v := 39) hx hb dX9_names_412 (by decide) ?_
  refine lv_bipush (v := 58) hx hb dX9_names_414 (by decide) ?_
  refine r_ki hw (r_runS (rest := []) hC hw (c_X9_isIn l _ _ 63 39 58) 3 gX9_names_X9_isIn rfl rfl rfl (by decide +kernel) ⟨Nat.le_of_ble_eq_true rfl, Nat.le_of_ble_eq_true rfl⟩ rfl hl.1 rfl (Nat.le_of_ble_eq_true rfl) dX9_names_416 ⟨Nat.le_of_ble_eq_true rfl, Nat.le_of_ble_eq_true rfl⟩) (fun r_14 u_15 H locs h_13 hw => ?_)
  rw [if_neg (by decide)] at h_13
  subst h_13
  refine lv_if_eq (tgt := 483) hx hb dX9_names_419 (by decide) (fun _ => ?_) (fun c_ => absurd (by decide) c_)
  refine lv_iload_n hx hb dX9_names_483 rfl (lv_at hl 3 rfl) ?_
  refine lv_bipush (v := 59) hx hb dX9_names_484 (by decide) ?_
  refine lv_bipush (v := 66) hx hb dX9_names_486 (by decide) ?_
  refine r_ki hw (r_runS (rest := []) hC hw (c_X9_isIn l _ _ 63 59 66) 3 gX9_names_X9_isIn rfl rfl rfl (by decide +kernel) ⟨Nat.le_of_ble_eq_true rfl, Nat.le_of_ble_eq_true rfl⟩ rfl hl.1 rfl (Nat.le_of_ble_eq_true rfl) dX9_names_488 ⟨Nat.le_of_ble_eq_true rfl, Nat.le_of_ble_eq_true rfl⟩) (fun r_17 u_18 H locs h_16 hw => ?_)
  rw [if_pos (by decide)] at h_16
  subst h_16
  refine lv_if_eq (tgt := 546) hx hb dX9_names_491 (by decide) (fun c_ => absurd c_ (by decide)) (fun _ => ?_)
  refine lv_iload_n hx hb dX9_names_494 rfl (lv_at hl 3 rfl) ?_
  refine lv_bipush (v := 61) hx hb dX9_names_495 (by decide) ?_
  refine lv_icmp_eq (tgt := 506) hx hb dX9_names_497 (by decide) (fun c_ => absurd c_ (by decide)) (fun _ => ?_)
  refine lv_iload_n hx hb dX9_names_500 rfl (lv_at hl 3 rfl) ?_
  refine lv_bipush (v := 62) hx hb dX9_names_501 (by decide) ?_
  refine lv_icmp_ne (tgt := 510) hx hb dX9_names_503 (by decide) (fun _ => ?_) (fun c_ => absurd c_ (by decide))
  refine lv_iload_n hx hb dX9_names_510 rfl (lv_at hl 3 rfl) ?_
  refine lv_bipush (v := 63) hx hb dX9_names_511 (by decide) ?_
  refine lv_icmp_eq (tgt := 522) hx hb dX9_names_513 (by decide) (fun _ => ?_) (fun c_ => absurd (by decide) c_)
  refine lv_iconst (v := 5) hx hb dX9_names_522 (by decide) ?_
  refine lv_goto (tgt := 527) hx hb dX9_names_523 (by decide) ?_
  refine lv_istore_n (lv' := [(2, .int 5), (4, .int 0), (3, .int 0), (0, .int 63), (1, .int wh)]) hx hb dX9_names_527 rfl hl (by decide) rfl (fun ls hl => ?_)
  refine lv_iconst (v := 5) hx hb dX9_names_528 (by decide) ?_
  refine lv_istore_n (lv' := [(3, .int 5), (2, .int 5), (4, .int 0), (0, .int 63), (1, .int wh)]) hx hb dX9_names_529 rfl hl (by decide) rfl (fun ls hl => ?_)
  refine lv_iload_n hx hb dX9_names_530 rfl (lv_at hl 3 rfl) ?_
  refine lv_bipush (v := 65) hx hb dX9_names_531 (by decide) ?_
  refine lv_icmp_lt (tgt := 540) hx hb dX9_names_533 (by decide) (fun _ => ?_) (fun c_ => absurd (by decide) c_)
  refine lv_iconst (v := 0) hx hb dX9_names_540 (by decide) ?_
  refine lv_istore (lv' := [(4, .int 0), (3, .int 5), (2, .int 5), (0, .int 63), (1, .int wh)]) hx hb dX9_names_541 hl (by decide) rfl (fun ls hl => ?_)
  refine lv_goto (tgt := 605) hx hb dX9_names_543 (by decide) ?_
  refine lv_iload_n hx hb dX9_names_605 rfl (lv_at hl 4 rfl) ?_
  refine lv_if_ne (tgt := 613) hx hb dX9_names_606 (by decide) (fun c_19 => ?_) (fun c_19 => ?_)
  · refine lv_iload_n hx hb dX9_names_613 rfl (lv_at hl 4 rfl) ?_
    refine lv_iconst (v := 1) hx hb dX9_names_614 (by decide) ?_
    refine lv_icmp_ne (tgt := 622) hx hb dX9_names_615 (by decide) (fun c_20 => ?_) (fun c_20 => ?_)
    · refine lv_iload hx hb dX9_names_622 (lv_at hl 0 rfl) ?_
      exact r_iret hC hr hlk hw () rfl ((if_neg c_19).trans (if_neg c_20)).symm (Nat.le_of_ble_eq_true rfl) (Nat.le_of_ble_eq_true rfl) dX9_names_624
    · refine lv_iload_n hx hb dX9_names_618 rfl (lv_at hl 1 rfl) ?_
      refine lv_goto (tgt := 624) hx hb dX9_names_619 (by decide) ?_
      exact r_iret hC hr hlk hw () rfl ((if_neg c_19).trans (if_pos c_20)).symm (Nat.le_of_ble_eq_true rfl) (Nat.le_of_ble_eq_true rfl) dX9_names_624
  · refine lv_iload_n hx hb dX9_names_609 rfl (lv_at hl 2 rfl) ?_
    refine lv_goto (tgt := 624) hx hb dX9_names_610 (by decide) ?_
    exact r_iret hC hr hlk hw () rfl (if_pos c_19).symm (Nat.le_of_ble_eq_true rfl) (Nat.le_of_ble_eq_true rfl) dX9_names_624

set_option maxHeartbeats 4000000 in
set_option maxRecDepth 100000 in
theorem c_X9_names_64 (l : Launch) {D : va_G} {q : Nat → ClassId} (w : wT) (sz : Nat) (wh : Int32) : Met l yX9_names wsX9_names (rmz 1 22) (va_Pc [.int 64, .int wh] (rPre D q w sz)) (va_Qi (fun (r : Int32) (u : Unit) => r = if wh = 0 then 5 else if wh = 1 then 5 else 0) (fun (u : Unit) tt => rPo D (rA w sz) w tt) (rA w sz)) 0 0 (rA w sz) := by
  refine r_start (cc := cX9_names) (maxL := 6) (ret := (some .int)) (by decide) rfl (Nat.le_of_ble_eq_true rfl) ?_
  intro p e s m below meth c ls hC hr hlk hnm hsz hw hl
  have hx := hC.1
  have hb := hC.2.1
  have hl : lv_has ls 6 [(0, .int 64), (1, .int wh)] := hl
  refine lv_iconst (v := 0) hx hb dX9_names_0 (by decide) ?_
  refine lv_istore_n (lv' := [(2, .int 0), (0, .int 64), (1, .int wh)]) hx hb dX9_names_1 rfl hl (by decide) rfl (fun ls hl => ?_)
  refine lv_iconst (v := 0) hx hb dX9_names_2 (by decide) ?_
  refine lv_istore_n (lv' := [(3, .int 0), (2, .int 0), (0, .int 64), (1, .int wh)]) hx hb dX9_names_3 rfl hl (by decide) rfl (fun ls hl => ?_)
  refine lv_iconst (v := 0) hx hb dX9_names_4 (by decide) ?_
  refine lv_istore (lv' := [(4, .int 0), (3, .int 0), (2, .int 0), (0, .int 64), (1, .int wh)]) hx hb dX9_names_5 hl (by decide) rfl (fun ls hl => ?_)
  refine lv_iload_n hx hb dX9_names_7 rfl (lv_at hl 3 rfl) ?_
  refine lv_iconst (v := 1) hx hb dX9_names_8 (by decide) ?_
  refine lv_icmp_eq (tgt := 24) hx hb dX9_names_9 (by decide) (fun c_ => absurd c_ (by decide)) (fun _ => ?_)
  refine lv_iload_n hx hb dX9_names_12 rfl (lv_at hl 3 rfl) ?_
  refine lv_bipush (v := 72) hx hb dX9_names_13 (by decide) ?_
  refine lv_icmp_eq (tgt := 24) hx hb dX9_names_15 (by decide) (fun c_ => absurd c_ (by decide)) (fun _ => ?_)
  refine lv_iload_n hx hb dX9_names_18 rfl (lv_at hl 3 rfl) ?_
  refine lv_bipush (v := 73) hx hb dX9_names_19 (by decide) ?_
  refine lv_icmp_ne (tgt := 29) hx hb dX9_names_21 (by decide) (fun _ => ?_) (fun c_ => absurd c_ (by decide))
  refine lv_iload_n hx hb dX9_names_29 rfl (lv_at hl 3 rfl) ?_
  refine lv_iconst (v := 2) hx hb dX9_names_30 (by decide) ?_
  refine lv_icmp_ne (tgt := 39) hx hb dX9_names_31 (by decide) (fun _ => ?_) (fun c_ => absurd c_ (by decide))
  refine lv_iload_n hx hb dX9_names_39 rfl (lv_at hl 3 rfl) ?_
  refine lv_iconst (v := 3) hx hb dX9_names_40 (by decide) ?_
  refine lv_icmp_ne (tgt := 51) hx hb dX9_names_41 (by decide) (fun _ => ?_) (fun c_ => absurd c_ (by decide))
  refine lv_iload_n hx hb dX9_names_51 rfl (lv_at hl 3 rfl) ?_
  refine lv_iconst (v := 4) hx hb dX9_names_52 (by decide) ?_
  refine lv_bipush (v := 8) hx hb dX9_names_53 (by decide) ?_
  refine r_ki hw (r_runS (rest := []) hC hw (c_X9_isIn l _ _ 64 4 8) 3 gX9_names_X9_isIn rfl rfl rfl (by decide +kernel) ⟨Nat.le_of_ble_eq_true rfl, Nat.le_of_ble_eq_true rfl⟩ rfl hl.1 rfl (Nat.le_of_ble_eq_true rfl) dX9_names_55 ⟨Nat.le_of_ble_eq_true rfl, Nat.le_of_ble_eq_true rfl⟩) (fun r_2 u_3 H locs h_1 hw => ?_)
  rw [if_neg (by decide)] at h_1
  subst h_1
  refine lv_if_ne (tgt := 67) hx hb dX9_names_58 (by decide) (fun c_ => absurd (by decide) c_) (fun _ => ?_)
  refine lv_iload_n hx hb dX9_names_61 rfl (lv_at hl 3 rfl) ?_
  refine lv_bipush (v := 25) hx hb dX9_names_62 (by decide) ?_
  refine lv_icmp_ne (tgt := 77) hx hb dX9_names_64 (by decide) (fun _ => ?_) (fun c_ => absurd c_ (by decide))
  refine lv_iload_n hx hb dX9_names_77 rfl (lv_at hl 3 rfl) ?_
  refine lv_bipush (v := 9) hx hb dX9_names_78 (by decide) ?_
  refine lv_bipush (v := 12) hx hb dX9_names_80 (by decide) ?_
  refine r_ki hw (r_runS (rest := []) hC hw (c_X9_isIn l _ _ 64 9 12) 3 gX9_names_X9_isIn rfl rfl rfl (by decide +kernel) ⟨Nat.le_of_ble_eq_true rfl, Nat.le_of_ble_eq_true rfl⟩ rfl hl.1 rfl (Nat.le_of_ble_eq_true rfl) dX9_names_82 ⟨Nat.le_of_ble_eq_true rfl, Nat.le_of_ble_eq_true rfl⟩) (fun r_5 u_6 H locs h_4 hw => ?_)
  rw [if_neg (by decide)] at h_4
  subst h_4
  refine lv_if_eq (tgt := 98) hx hb dX9_names_85 (by decide) (fun _ => ?_) (fun c_ => absurd (by decide) c_)
  refine lv_iload_n hx hb dX9_names_98 rfl (lv_at hl 3 rfl) ?_
  refine lv_bipush (v := 13) hx hb dX9_names_99 (by decide) ?_
  refine lv_bipush (v := 24) hx hb dX9_names_101 (by decide) ?_
  refine r_ki hw (r_runS (rest := []) hC hw (c_X9_isIn l _ _ 64 13 24) 3 gX9_names_X9_isIn rfl rfl rfl (by decide +kernel) ⟨Nat.le_of_ble_eq_true rfl, Nat.le_of_ble_eq_true rfl⟩ rfl hl.1 rfl (Nat.le_of_ble_eq_true rfl) dX9_names_103 ⟨Nat.le_of_ble_eq_true rfl, Nat.le_of_ble_eq_true rfl⟩) (fun r_8 u_9 H locs h_7 hw => ?_)
  rw [if_neg (by decide)] at h_7
  subst h_7
  refine lv_if_ne (tgt := 115) hx hb dX9_names_106 (by decide) (fun c_ => absurd (by decide) c_) (fun _ => ?_)
  refine lv_iload_n hx hb dX9_names_109 rfl (lv_at hl 3 rfl) ?_
  refine lv_bipush (v := 26) hx hb dX9_names_110 (by decide) ?_
  refine lv_icmp_ne (tgt := 270) hx hb dX9_names_112 (by decide) (fun _ => ?_) (fun c_ => absurd c_ (by decide))
  refine lv_iload_n hx hb dX9_names_270 rfl (lv_at hl 3 rfl) ?_
  refine lv_bipush (v := 27) hx hb dX9_names_271 (by decide) ?_
  refine lv_icmp_eq (tgt := 282) hx hb dX9_names_273 (by decide) (fun c_ => absurd c_ (by decide)) (fun _ => ?_)
  refine lv_iload_n hx hb dX9_names_276 rfl (lv_at hl 3 rfl) ?_
  refine lv_bipush (v := 29) hx hb dX9_names_277 (by decide) ?_
  refine lv_icmp_ne (tgt := 288) hx hb dX9_names_279 (by decide) (fun _ => ?_) (fun c_ => absurd c_ (by decide))
  refine lv_iload_n hx hb dX9_names_288 rfl (lv_at hl 3 rfl) ?_
  refine lv_bipush (v := 28) hx hb dX9_names_289 (by decide) ?_
  refine lv_icmp_ne (tgt := 302) hx hb dX9_names_291 (by decide) (fun _ => ?_) (fun c_ => absurd c_ (by decide))
  refine lv_iload_n hx hb dX9_names_302 rfl (lv_at hl 3 rfl) ?_
  refine lv_bipush (v := 31) hx hb dX9_names_303 (by decide) ?_
  refine lv_bipush (v := 38) hx hb dX9_names_305 (by decide) ?_
  refine r_ki hw (r_runS (rest := []) hC hw (c_X9_isIn l _ _ 64 31 38) 3 gX9_names_X9_isIn rfl rfl rfl (by decide +kernel) ⟨Nat.le_of_ble_eq_true rfl, Nat.le_of_ble_eq_true rfl⟩ rfl hl.1 rfl (Nat.le_of_ble_eq_true rfl) dX9_names_307 ⟨Nat.le_of_ble_eq_true rfl, Nat.le_of_ble_eq_true rfl⟩) (fun r_11 u_12 H locs h_10 hw => ?_)
  rw [if_neg (by decide)] at h_10
  subst h_10
  refine lv_if_eq (tgt := 411) hx hb dX9_names_310 (by decide) (fun _ => ?_) (fun c_ => absurd (by decide) c_)
  refine lv_iload_n hx hb dX9_names_411 rfl (lv_at hl 3 rfl) ?_
  refine lv_bipush (v := 39) hx hb dX9_names_412 (by decide) ?_
  refine lv_bipush (v := 58) hx hb dX9_names_414 (by decide) ?_
  refine r_ki hw (r_runS (rest := []) hC hw (c_X9_isIn l _ _ 64 39 58) 3 gX9_names_X9_isIn rfl rfl rfl (by decide +kernel) ⟨Nat.le_of_ble_eq_true rfl, Nat.le_of_ble_eq_true rfl⟩ rfl hl.1 rfl (Nat.le_of_ble_eq_true rfl) dX9_names_416 ⟨Nat.le_of_ble_eq_true rfl, Nat.le_of_ble_eq_true rfl⟩) (fun r_14 u_15 H locs h_13 hw => ?_)
  rw [if_neg (by decide)] at h_13
  subst h_13
  refine lv_if_eq (tgt := 483) hx hb dX9_names_419 (by decide) (fun _ => ?_) (fun c_ => absurd (by decide) c_)
  refine lv_iload_n hx hb dX9_names_483 rfl (lv_at hl 3 rfl) ?_
  refine lv_bipush (v := 59) hx hb dX9_names_484 (by decide) ?_
  refine lv_bipush (v := 66) hx hb dX9_names_486 (by decide) ?_
  refine r_ki hw (r_runS (rest := []) hC hw (c_X9_isIn l _ _ 64 59 66) 3 gX9_names_X9_isIn rfl rfl rfl (by decide +kernel) ⟨Nat.le_of_ble_eq_true rfl, Nat.le_of_ble_eq_true rfl⟩ rfl hl.1 rfl (Nat.le_of_ble_eq_true rfl) dX9_names_488 ⟨Nat.le_of_ble_eq_true rfl, Nat.le_of_ble_eq_true rfl⟩) (fun r_17 u_18 H locs h_16 hw => ?_)
  rw [if_pos (by decide)] at h_16
  subst h_16
  refine lv_if_eq (tgt := 546) hx hb dX9_names_491 (by decide) (fun c_ => absurd c_ (by decide)) (fun _ => ?_)
  refine lv_iload_n hx hb dX9_names_494 rfl (lv_at hl 3 rfl) ?_
  refine lv_bipush (v := 61) hx hb dX9_names_495 (by decide) ?_
  refine lv_icmp_eq (tgt := 506) hx hb dX9_names_497 (by decide) (fun c_ => absurd c_ (by decide)) (fun _ => ?_)
  refine lv_iload_n hx hb dX9_names_500 rfl (lv_at hl 3 rfl) ?_
  refine lv_bipush (v := 62) hx hb dX9_names_501 (by decide) ?_
  refine lv_icmp_ne (tgt := 510) hx hb dX9_names_503 (by decide) (fun _ => ?_) (fun c_ => absurd c_ (by decide))
  refine lv_iload_n hx hb dX9_names_510 rfl (lv_at hl 3 rfl) ?_
  refine lv_bipush (v := 63) hx hb dX9_names_511 (by decide) ?_
  refine lv_icmp_eq (tgt := 522) hx hb dX9_names_513 (by decide) (fun c_ => absurd c_ (by decide)) (fun _ => ?_)
  refine lv_iload_n hx hb dX9_names_516 rfl (lv_at hl 3 rfl) ?_
  refine lv_bipush (v := 64) hx hb dX9_names_517 (by decide) ?_
  refine lv_icmp_ne (tgt := 526) hx hb dX9_names_519 (by decide) (fun c_ => absurd (by decide) c_) (fun _ => ?_)
  refine lv_iconst (v := 5) hx hb dX9_names_522 (by decide) ?_
  refine lv_goto (tgt := 527) hx hb dX9_names_523 (by decide) ?_
  refine lv_istore_n (lv' := [(2, .int 5), (4, .int 0), (3, .int 0), (0, .int 64), (1, .int wh)]) hx hb dX9_names_527 rfl hl (by decide) rfl (fun ls hl => ?_)
  refine lv_iconst (v := 5) hx hb dX9_names_528 (by decide) ?_
  refine lv_istore_n (lv' := [(3, .int 5), (2, .int 5), (4, .int 0), (0, .int 64), (1, .int wh)]) hx hb dX9_names_529 rfl hl (by decide) rfl (fun ls hl => ?_)
  refine lv_iload_n hx hb dX9_names_530 rfl (lv_at hl 3 rfl) ?_
  refine lv_bipush (v := 65) hx hb dX9_names_531 (by decide) ?_
  refine lv_icmp_lt (tgt := 540) hx hb dX9_names_533 (by decide) (fun _ => ?_) (fun c_ => absurd (by decide) c_)
  refine lv_iconst (v := 0) hx hb dX9_names_540 (by decide) ?_
  refine lv_istore (lv' := [(4, .int 0), (3, .int 5), (2, .int 5), (0, .int 64), (1, .int wh)]) hx hb dX9_names_541 hl (by decide) rfl (fun ls hl => ?_)
  refine lv_goto (tgt := 605) hx hb dX9_names_543 (by decide) ?_
  refine lv_iload_n hx hb dX9_names_605 rfl (lv_at hl 4 rfl) ?_
  refine lv_if_ne (tgt := 613) hx hb dX9_names_606 (by decide) (fun c_19 => ?_) (fun c_19 => ?_)
  · refine lv_iload_n hx hb dX9_names_613 rfl (lv_at hl 4 rfl) ?_
    refine lv_iconst (v := 1) hx hb dX9_names_614 (by decide) ?_
    refine lv_icmp_ne (tgt := 622) hx hb dX9_names_615 (by decide) (fun c_20 => ?_) (fun c_20 => ?_)
    · refine lv_iload hx hb dX9_names_622 (lv_at hl 0 rfl) ?_
      exact r_iret hC hr hlk hw () rfl ((if_neg c_19).trans (if_neg c_20)).symm (Nat.le_of_ble_eq_true rfl) (Nat.le_of_ble_eq_true rfl) dX9_names_624
    · refine lv_iload_n hx hb dX9_names_618 rfl (lv_at hl 1 rfl) ?_
      refine lv_goto (tgt := 624) hx hb dX9_names_619 (by decide) ?_
      exact r_iret hC hr hlk hw () rfl ((if_neg c_19).trans (if_pos c_20)).symm (Nat.le_of_ble_eq_true rfl) (Nat.le_of_ble_eq_true rfl) dX9_names_624
  · refine lv_iload_n hx hb dX9_names_609 rfl (lv_at hl 2 rfl) ?_
    refine lv_goto (tgt := 624) hx hb dX9_names_610 (by decide) ?_
    exact r_iret hC hr hlk hw () rfl (if_pos c_19).symm (Nat.le_of_ble_eq_true rfl) (Nat.le_of_ble_eq_true rfl) dX9_names_624

set_option maxHeartbeats 4000000 in
set_option maxRecDepth 100000 in
theorem c_X9_names_65 (l : Launch) {D : va_G} {q : Nat → ClassId} (w : wT) (sz : Nat) (wh : Int32) : Met l yX9_names wsX9_names (rmz 1 22) (va_Pc [.int 65, .int wh] (rPre D q w sz)) (va_Qi (fun (r : Int32) (u : Unit) => r = if wh = 0 then 1 else if wh = 1 then 5 else 1) (fun (u : Unit) tt => rPo D (rA w sz) w tt) (rA w sz)) 0 0 (rA w sz) := by
  refine r_start (cc := cX9_names) (maxL := 6) (ret := (some .int)) (by decide) rfl (Nat.le_of_ble_eq_true rfl) ?_
  intro p e s m below meth c ls hC hr hlk hnm hsz hw hl
  have hx := hC.1
  have hb := hC.2.1
  have hl : lv_has ls 6 [(0, .int 65), (1, .int wh)] := hl
  refine lv_iconst (v := 0) hx hb dX9_names_0 (by decide) ?_
  refine lv_istore_n (lv' := [(2, .int 0), (0, .int 65), (1, .int wh)]) hx hb dX9_names_1 rfl hl (by decide) rfl (fun ls hl => ?_)
  refine lv_iconst (v := 0) hx hb dX9_names_2 (by decide) ?_
  refine lv_istore_n (lv' := [(3, .int 0), (2, .int 0), (0, .int 65), (1, .int wh)]) hx hb dX9_names_3 rfl hl (by decide) rfl (fun ls hl => ?_)
  refine lv_iconst (v := 0) hx hb dX9_names_4 (by decide) ?_
  refine lv_istore (lv' := [(4, .int 0), (3, .int 0), (2, .int 0), (0, .int 65), (1, .int wh)]) hx hb dX9_names_5 hl (by decide) rfl (fun ls hl => ?_)
  refine lv_iload_n hx hb dX9_names_7 rfl (lv_at hl 3 rfl) ?_
  refine lv_iconst (v := 1) hx hb dX9_names_8 (by decide) ?_
  refine lv_icmp_eq (tgt := 24) hx hb dX9_names_9 (by decide) (fun c_ => absurd c_ (by decide)) (fun _ => ?_)
  refine lv_iload_n hx hb dX9_names_12 rfl (lv_at hl 3 rfl) ?_
  refine lv_bipush (v := 72) hx hb dX9_names_13 (by decide) ?_
  refine lv_icmp_eq (tgt := 24) hx hb dX9_names_15 (by decide) (fun c_ => absurd c_ (by decide)) (fun _ => ?_)
  refine lv_iload_n hx hb dX9_names_18 rfl (lv_at hl 3 rfl) ?_
  refine lv_bipush (v := 73) hx hb dX9_names_19 (by decide) ?_
  refine lv_icmp_ne (tgt := 29) hx hb dX9_names_21 (by decide) (fun _ => ?_) (fun c_ => absurd c_ (by decide))
  refine lv_iload_n hx hb dX9_names_29 rfl (lv_at hl 3 rfl) ?_
  refine lv_iconst (v := 2) hx hb dX9_names_30 (by decide) ?_
  refine lv_icmp_ne (tgt := 39) hx hb dX9_names_31 (by decide) (fun _ => ?_) (fun c_ => absurd c_ (by decide))
  refine lv_iload_n hx hb dX9_names_39 rfl (lv_at hl 3 rfl) ?_
  refine lv_iconst (v := 3) hx hb dX9_names_40 (by decide) ?_
  refine lv_icmp_ne (tgt := 51) hx hb dX9_names_41 (by decide) (fun _ => ?_) (fun c_ => absurd c_ (by decide))
  refine lv_iload_n hx hb dX9_names_51 rfl (lv_at hl 3 rfl) ?_
  refine lv_iconst (v := 4) hx hb dX9_names_52 (by decide) ?_
  refine lv_bipush (v := 8) hx hb dX9_names_53 (by decide) ?_
  refine r_ki hw (r_runS (rest := []) hC hw (c_X9_isIn l _ _ 65 4 8) 3 gX9_names_X9_isIn rfl rfl rfl (by decide +kernel) ⟨Nat.le_of_ble_eq_true rfl, Nat.le_of_ble_eq_true rfl⟩ rfl hl.1 rfl (Nat.le_of_ble_eq_true rfl) dX9_names_55 ⟨Nat.le_of_ble_eq_true rfl, Nat.le_of_ble_eq_true rfl⟩) (fun r_2 u_3 H locs h_1 hw => ?_)
  rw [if_neg (by decide)] at h_1
  subst h_1
  refine lv_if_ne (tgt := 67) hx hb dX9_names_58 (by decide) (fun c_ => absurd (by decide) c_) (fun _ => ?_)
  refine lv_iload_n hx hb dX9_names_61 rfl (lv_at hl 3 rfl) ?_
  refine lv_bipush (v := 25) hx hb dX9_names_62 (by decide) ?_
  refine lv_icmp_ne (tgt := 77) hx hb dX9_names_64 (by decide) (fun _ => ?_) (fun c_ => absurd c_ (by decide))
  refine lv_iload_n hx hb dX9_names_77 rfl (lv_at hl 3 rfl) ?_
  refine lv_bipush (v := 9) hx hb dX9_names_78 (by decide) ?_
  refine lv_bipush (v := 12) hx hb dX9_names_80 (by decide) ?_
  refine r_ki hw (r_runS (rest := []) hC hw (c_X9_isIn l _ _ 65 9 12) 3 gX9_names_X9_isIn rfl rfl rfl (by decide +kernel) ⟨Nat.le_of_ble_eq_true rfl, Nat.le_of_ble_eq_true rfl⟩ rfl hl.1 rfl (Nat.le_of_ble_eq_true rfl) dX9_names_82 ⟨Nat.le_of_ble_eq_true rfl, Nat.le_of_ble_eq_true rfl⟩) (fun r_5 u_6 H locs h_4 hw => ?_)
  rw [if_neg (by decide)] at h_4
  subst h_4
  refine lv_if_eq (tgt := 98) hx hb dX9_names_85 (by decide) (fun _ => ?_) (fun c_ => absurd (by decide) c_)
  refine lv_iload_n hx hb dX9_names_98 rfl (lv_at hl 3 rfl) ?_
  refine lv_bipush (v := 13) hx hb dX9_names_99 (by decide) ?_
  refine lv_bipush (v := 24) hx hb dX9_names_101 (by decide) ?_
  refine r_ki hw (r_runS (rest := []) hC hw (c_X9_isIn l _ _ 65 13 24) 3 gX9_names_X9_isIn rfl rfl rfl (by decide +kernel) ⟨Nat.le_of_ble_eq_true rfl, Nat.le_of_ble_eq_true rfl⟩ rfl hl.1 rfl (Nat.le_of_ble_eq_true rfl) dX9_names_103 ⟨Nat.le_of_ble_eq_true rfl, Nat.le_of_ble_eq_true rfl⟩) (fun r_8 u_9 H locs h_7 hw => ?_)
  rw [if_neg (by decide)] at h_7
  subst h_7
  refine lv_if_ne (tgt := 115) hx hb dX9_names_106 (by decide) (fun c_ => absurd (by decide) c_) (fun _ => ?_)
  refine lv_iload_n hx hb dX9_names_109 rfl (lv_at hl 3 rfl) ?_
  refine lv_bipush (v := 26) hx hb dX9_names_110 (by decide) ?_
  refine lv_icmp_ne (tgt := 270) hx hb dX9_names_112 (by decide) (fun _ => ?_) (fun c_ => absurd c_ (by decide))
  refine lv_iload_n hx hb dX9_names_270 rfl (lv_at hl 3 rfl) ?_
  refine lv_bipush (v := 27) hx hb dX9_names_271 (by decide) ?_
  refine lv_icmp_eq (tgt := 282) hx hb dX9_names_273 (by decide) (fun c_ => absurd c_ (by decide)) (fun _ => ?_)
  refine lv_iload_n hx hb dX9_names_276 rfl (lv_at hl 3 rfl) ?_
  refine lv_bipush (v := 29) hx hb dX9_names_277 (by decide) ?_
  refine lv_icmp_ne (tgt := 288) hx hb dX9_names_279 (by decide) (fun _ => ?_) (fun c_ => absurd c_ (by decide))
  refine lv_iload_n hx hb dX9_names_288 rfl (lv_at hl 3 rfl) ?_
  refine lv_bipush (v := 28) hx hb dX9_names_289 (by decide) ?_
  refine lv_icmp_ne (tgt := 302) hx hb dX9_names_291 (by decide) (fun _ => ?_) (fun c_ => absurd c_ (by decide))
  refine lv_iload_n hx hb dX9_names_302 rfl (lv_at hl 3 rfl) ?_
  refine lv_bipush (v := 31) hx hb dX9_names_303 (by decide) ?_
  refine lv_bipush (v := 38) hx hb dX9_names_305 (by decide) ?_
  refine r_ki hw (r_runS (rest := []) hC hw (c_X9_isIn l _ _ 65 31 38) 3 gX9_names_X9_isIn rfl rfl rfl (by decide +kernel) ⟨Nat.le_of_ble_eq_true rfl, Nat.le_of_ble_eq_true rfl⟩ rfl hl.1 rfl (Nat.le_of_ble_eq_true rfl) dX9_names_307 ⟨Nat.le_of_ble_eq_true rfl, Nat.le_of_ble_eq_true rfl⟩) (fun r_11 u_12 H locs h_10 hw => ?_)
  rw [if_neg (by decide)] at h_10
  subst h_10
  refine lv_if_eq (tgt := 411) hx hb dX9_names_310 (by decide) (fun _ => ?_) (fun c_ => absurd (by decide) c_)
  refine lv_iload_n hx hb dX9_names_411 rfl (lv_at hl 3 rfl) ?_
  refine lv_bipush (v := 39) hx hb dX9_names_412 (by decide) ?_
  refine lv_bipush (v := 58) hx hb dX9_names_414 (by decide) ?_
  refine r_ki hw (r_runS (rest := []) hC hw (c_X9_isIn l _ _ 65 39 58) 3 gX9_names_X9_isIn rfl rfl rfl (by decide +kernel) ⟨Nat.le_of_ble_eq_true rfl, Nat.le_of_ble_eq_true rfl⟩ rfl hl.1 rfl (Nat.le_of_ble_eq_true rfl) dX9_names_416 ⟨Nat.le_of_ble_eq_true rfl, Nat.le_of_ble_eq_true rfl⟩) (fun r_14 u_15 H locs h_13 hw => ?_)
  rw [if_neg (by decide)] at h_13
  subst h_13
  refine lv_if_eq (tgt := 483) hx hb dX9_names_419 (by decide) (fun _ => ?_) (fun c_ => absurd (by decide) c_)
  refine lv_iload_n hx hb dX9_names_483 rfl (lv_at hl 3 rfl) ?_
  refine lv_bipush (v := 59) hx hb dX9_names_484 (by decide) ?_
  refine lv_bipush (v := 66) hx hb dX9_names_486 (by decide) ?_
  refine r_ki hw (r_runS (rest := []) hC hw (c_X9_isIn l _ _ 65 59 66) 3 gX9_names_X9_isIn rfl rfl rfl (by decide +kernel) ⟨Nat.le_of_ble_eq_true rfl, Nat.le_of_ble_eq_true rfl⟩ rfl hl.1 rfl (Nat.le_of_ble_eq_true rfl) dX9_names_488 ⟨Nat.le_of_ble_eq_true rfl, Nat.le_of_ble_eq_true rfl⟩) (fun r_17 u_18 H locs h_16 hw => ?_)
  rw [if_pos (by decide)] at h_16
  subst h_16
  refine lv_if_eq (tgt := 546) hx hb dX9_names_491 (by decide) (fun c_ => absurd c_ (by decide)) (fun _ => ?_)
  refine lv_iload_n hx hb dX9_names_494 rfl (lv_at hl 3 rfl) ?_
  refine lv_bipush (v := 61) hx hb dX9_names_495 (by decide) ?_
  refine lv_icmp_eq (tgt := 506) hx hb dX9_names_497 (by decide) (fun c_ => absurd c_ (by decide)) (fun _ => ?_)
  refine lv_iload_n hx hb dX9_names_500 rfl (lv_at hl 3 rfl) ?_
  refine lv_bipush (v := 62) hx hb dX9_names_501 (by decide) ?_
  refine lv_icmp_ne (tgt := 510) hx hb dX9_names_503 (by decide) (fun _ => ?_) (fun c_ => absurd c_ (by decide))
  refine lv_iload_n hx hb dX9_names_510 rfl (lv_at hl 3 rfl) ?_
  refine lv_bipush (v := 63) hx hb dX9_names_511 (by decide) ?_
  refine lv_icmp_eq (tgt := 522) hx hb dX9_names_513 (by decide) (fun c_ => absurd c_ (by decide)) (fun _ => ?_)
  refine lv_iload_n hx hb dX9_names_516 rfl (lv_at hl 3 rfl) ?_
  refine lv_bipush (v := 64) hx hb dX9_names_517 (by decide) ?_
  refine lv_icmp_ne (tgt := 526) hx hb dX9_names_519 (by decide) (fun _ => ?_) (fun c_ => absurd c_ (by decide))
  refine lv_iconst (v := 1) hx hb dX9_names_526 (by decide) ?_
  refine lv_istore_n (lv' := [(2, .int 1), (4, .int 0), (3, .int 0), (0, .int 65), (1, .int wh)]) hx hb dX9_names_527 rfl hl (by decide) rfl (fun ls hl => ?_)
  refine lv_iconst (v := 5) hx hb dX9_names_528 (by decide) ?_
  refine lv_istore_n (lv' := [(3, .int 5), (2, .int 1), (4, .int 0), (0, .int 65), (1, .int wh)]) hx hb dX9_names_529 rfl hl (by decide) rfl (fun ls hl => ?_)
  refine lv_iload_n hx hb dX9_names_530 rfl (lv_at hl 3 rfl) ?_
  refine lv_bipush (v := 65) hx hb dX9_names_531 (by decide) ?_
  refine lv_icmp_lt (tgt := 540) hx hb dX9_names_533 (by decide) (fun c_ => absurd c_ (by decide)) (fun _ => ?_)
  refine lv_iconst (v := 1) hx hb dX9_names_536 (by decide) ?_
  refine lv_goto (tgt := 541) hx hb dX9_names_537 (by decide) ?_
  refine lv_istore (lv' := [(4, .int 1), (3, .int 5), (2, .int 1), (0, .int 65), (1, .int wh)]) hx hb dX9_names_541 hl (by decide) rfl (fun ls hl => ?_)
  refine lv_goto (tgt := 605) hx hb dX9_names_543 (by decide) ?_
  refine lv_iload_n hx hb dX9_names_605 rfl (lv_at hl 4 rfl) ?_
  refine lv_if_ne (tgt := 613) hx hb dX9_names_606 (by decide) (fun c_19 => ?_) (fun c_19 => ?_)
  · refine lv_iload_n hx hb dX9_names_613 rfl (lv_at hl 4 rfl) ?_
    refine lv_iconst (v := 1) hx hb dX9_names_614 (by decide) ?_
    refine lv_icmp_ne (tgt := 622) hx hb dX9_names_615 (by decide) (fun c_20 => ?_) (fun c_20 => ?_)
    · refine lv_iload hx hb dX9_names_622 (lv_at hl 0 rfl) ?_
      exact r_iret hC hr hlk hw () rfl ((if_neg c_19).trans (if_neg c_20)).symm (Nat.le_of_ble_eq_true rfl) (Nat.le_of_ble_eq_true rfl) dX9_names_624
    · refine lv_iload_n hx hb dX9_names_618 rfl (lv_at hl 1 rfl) ?_
      refine lv_goto (tgt := 624) hx hb dX9_names_619 (by decide) ?_
      exact r_iret hC hr hlk hw () rfl ((if_neg c_19).trans (if_pos c_20)).symm (Nat.le_of_ble_eq_true rfl) (Nat.le_of_ble_eq_true rfl) dX9_names_624
  · refine lv_iload_n hx hb dX9_names_609 rfl (lv_at hl 2 rfl) ?_
    refine lv_goto (tgt := 624) hx hb dX9_names_610 (by decide) ?_
    exact r_iret hC hr hlk hw () rfl (if_pos c_19).symm (Nat.le_of_ble_eq_true rfl) (Nat.le_of_ble_eq_true rfl) dX9_names_624

set_option maxHeartbeats 4000000 in
set_option maxRecDepth 100000 in
theorem c_X9_names_66 (l : Launch) {D : va_G} {q : Nat → ClassId} (w : wT) (sz : Nat) (wh : Int32) : Met l yX9_names wsX9_names (rmz 1 22) (va_Pc [.int 66, .int wh] (rPre D q w sz)) (va_Qi (fun (r : Int32) (u : Unit) => r = if wh = 0 then 1 else if wh = 1 then 5 else 1) (fun (u : Unit) tt => rPo D (rA w sz) w tt) (rA w sz)) 0 0 (rA w sz) := by
  refine r_start (cc := cX9_names) (maxL := 6) (ret := (some .int)) (by decide) rfl (Nat.le_of_ble_eq_true rfl) ?_
  intro p e s m below meth c ls hC hr hlk hnm hsz hw hl
  have hx := hC.1
  have hb := hC.2.1
  have hl : lv_has ls 6 [(0, .int 66), (1, .int wh)] := hl
  refine lv_iconst (v := 0) hx hb dX9_names_0 (by decide) ?_
  refine lv_istore_n (lv' := [(2, .int 0), (0, .int 66), (1, .int wh)]) hx hb dX9_names_1 rfl hl (by decide) rfl (fun ls hl => ?_)
  refine lv_iconst (v := 0) hx hb dX9_names_2 (by decide) ?_
  refine lv_istore_n (lv' := [(3, .int 0), (2, .int 0), (0, .int 66), (1, .int wh)]) hx hb dX9_names_3 rfl hl (by decide) rfl (fun ls hl => ?_)
  refine lv_iconst (v := 0) hx hb dX9_names_4 (by decide) ?_
  refine lv_istore (lv' := [(4, .int 0), (3, .int 0), (2, .int 0), (0, .int 66), (1, .int wh)]) hx hb dX9_names_5 hl (by decide) rfl (fun ls hl => ?_)
  refine lv_iload_n hx hb dX9_names_7 rfl (lv_at hl 3 rfl) ?_
  refine lv_iconst (v := 1) hx hb dX9_names_8 (by decide) ?_
  refine lv_icmp_eq (tgt := 24) hx hb dX9_names_9 (by decide) (fun c_ => absurd c_ (by decide)) (fun _ => ?_)
  refine lv_iload_n hx hb dX9_names_12 rfl (lv_at hl 3 rfl) ?_
  refine lv_bipush (v := 72) hx hb dX9_names_13 (by decide) ?_
  refine lv_icmp_eq (tgt := 24) hx hb dX9_names_15 (by decide) (fun c_ => absurd c_ (by decide)) (fun _ => ?_)
  refine lv_iload_n hx hb dX9_names_18 rfl (lv_at hl 3 rfl) ?_
  refine lv_bipush (v := 73) hx hb dX9_names_19 (by decide) ?_
  refine lv_icmp_ne (tgt := 29) hx hb dX9_names_21 (by decide) (fun _ => ?_) (fun c_ => absurd c_ (by decide))
  refine lv_iload_n hx hb dX9_names_29 rfl (lv_at hl 3 rfl) ?_
  refine lv_iconst (v := 2) hx hb dX9_names_30 (by decide) ?_
  refine lv_icmp_ne (tgt := 39) hx hb dX9_names_31 (by decide) (fun _ => ?_) (fun c_ => absurd c_ (by decide))
  refine lv_iload_n hx hb dX9_names_39 rfl (lv_at hl 3 rfl) ?_
  refine lv_iconst (v := 3) hx hb dX9_names_40 (by decide) ?_
  refine lv_icmp_ne (tgt := 51) hx hb dX9_names_41 (by decide) (fun _ => ?_) (fun c_ => absurd c_ (by decide))
  refine lv_iload_n hx hb dX9_names_51 rfl (lv_at hl 3 rfl) ?_
  refine lv_iconst (v := 4) hx hb dX9_names_52 (by decide) ?_
  refine lv_bipush (v := 8) hx hb dX9_names_53 (by decide) ?_
  refine r_ki hw (r_runS (rest := []) hC hw (c_X9_isIn l _ _ 66 4 8) 3 gX9_names_X9_isIn rfl rfl rfl (by decide +kernel) ⟨Nat.le_of_ble_eq_true rfl, Nat.le_of_ble_eq_true rfl⟩ rfl hl.1 rfl (Nat.le_of_ble_eq_true rfl) dX9_names_55 ⟨Nat.le_of_ble_eq_true rfl, Nat.le_of_ble_eq_true rfl⟩) (fun r_2 u_3 H locs h_1 hw => ?_)
  rw [if_neg (by decide)] at h_1
  subst h_1
  refine lv_if_ne (tgt := 67) hx hb dX9_names_58 (by decide) (fun c_ => absurd (by decide) c_) (fun _ => ?_)
  refine lv_iload_n hx hb dX9_names_61 rfl (lv_at hl 3 rfl) ?_
  refine lv_bipush (v := 25) hx hb dX9_names_62 (by decide) ?_
  refine lv_icmp_ne (tgt := 77) hx hb dX9_names_64 (by decide) (fun _ => ?_) (fun c_ => absurd c_ (by decide))
  refine lv_iload_n hx hb dX9_names_77 rfl (lv_at hl 3 rfl) ?_
  refine lv_bipush (v := 9) hx hb dX9_names_78 (by decide) ?_
  refine lv_bipush (v := 12) hx hb dX9_names_80 (by decide) ?_
  refine r_ki hw (r_runS (rest := []) hC hw (c_X9_isIn l _ _ 66 9 12) 3 gX9_names_X9_isIn rfl rfl rfl (by decide +kernel) ⟨Nat.le_of_ble_eq_true rfl, Nat.le_of_ble_eq_true rfl⟩ rfl hl.1 rfl (Nat.le_of_ble_eq_true rfl) dX9_names_82 ⟨Nat.le_of_ble_eq_true rfl, Nat.le_of_ble_eq_true rfl⟩) (fun r_5 u_6 H locs h_4 hw => ?_)
  rw [if_neg (by decide)] at h_4
  subst h_4
  refine lv_if_eq (tgt := 98) hx hb dX9_names_85 (by decide) (fun _ => ?_) (fun c_ => absurd (by decide) c_)
  refine lv_iload_n hx hb dX9_names_98 rfl (lv_at hl 3 rfl) ?_
  refine lv_bipush (v := 13) hx hb dX9_names_99 (by decide) ?_
  refine lv_bipush (v := 24) hx hb dX9_names_101 (by decide) ?_
  refine r_ki hw (r_runS (rest := []) hC hw (c_X9_isIn l _ _ 66 13 24) 3 gX9_names_X9_isIn rfl rfl rfl (by decide +kernel) ⟨Nat.le_of_ble_eq_true rfl, Nat.le_of_ble_eq_true rfl⟩ rfl hl.1 rfl (Nat.le_of_ble_eq_true rfl) dX9_names_103 ⟨Nat.le_of_ble_eq_true rfl, Nat.le_of_ble_eq_true rfl⟩) (fun r_8 u_9 H locs h_7 hw => ?_)
  rw [if_neg (by decide)] at h_7
  subst h_7
  refine lv_if_ne (tgt := 115) hx hb dX9_names_106 (by decide) (fun c_ => absurd (by decide) c_) (fun _ => ?_)
  refine lv_iload_n hx hb dX9_names_109 rfl (lv_at hl 3 rfl) ?_
  refine lv_bipush (v := 26) hx hb dX9_names_110 (by decide) ?_
  refine lv_icmp_ne (tgt := 270) hx hb dX9_names_112 (by decide) (fun _ => ?_) (fun c_ => absurd c_ (by decide))
  refine lv_iload_n hx hb dX9_names_270 rfl (lv_at hl 3 rfl) ?_
  refine lv_bipush (v := 27) hx hb dX9_names_271 (by decide) ?_
  refine lv_icmp_eq (tgt := 282) hx hb dX9_names_273 (by decide) (fun c_ => absurd c_ (by decide)) (fun _ => ?_)
  refine lv_iload_n hx hb dX9_names_276 rfl (lv_at hl 3 rfl) ?_
  refine lv_bipush (v := 29) hx hb dX9_names_277 (by decide) ?_
  refine lv_icmp_ne (tgt := 288) hx hb dX9_names_279 (by decide) (fun _ => ?_) (fun c_ => absurd c_ (by decide))
  refine lv_iload_n hx hb dX9_names_288 rfl (lv_at hl 3 rfl) ?_
  refine lv_bipush (v := 28) hx hb dX9_names_289 (by decide) ?_
  refine lv_icmp_ne (tgt := 302) hx hb dX9_names_291 (by decide) (fun _ => ?_) (fun c_ => absurd c_ (by decide))
  refine lv_iload_n hx hb dX9_names_302 rfl (lv_at hl 3 rfl) ?_
  refine lv_bipush (v := 31) hx hb dX9_names_303 (by decide) ?_
  refine lv_bipush (v := 38) hx hb dX9_names_305 (by decide) ?_
  refine r_ki hw (r_runS (rest := []) hC hw (c_X9_isIn l _ _ 66 31 38) 3 gX9_names_X9_isIn rfl rfl rfl (by decide +kernel) ⟨Nat.le_of_ble_eq_true rfl, Nat.le_of_ble_eq_true rfl⟩ rfl hl.1 rfl (Nat.le_of_ble_eq_true rfl) dX9_names_307 ⟨Nat.le_of_ble_eq_true rfl, Nat.le_of_ble_eq_true rfl⟩) (fun r_11 u_12 H locs h_10 hw => ?_)
  rw [if_neg (by decide)] at h_10
  subst h_10
  refine lv_if_eq (tgt := 411) hx hb dX9_names_310 (by decide) (fun _ => ?_) (fun c_ => absurd (by decide) c_)
  refine lv_iload_n hx hb dX9_names_411 rfl (lv_at hl 3 rfl) ?_
  refine lv_bipush (v := 39) hx hb dX9_names_412 (by decide) ?_
  refine lv_bipush (v := 58) hx hb dX9_names_414 (by decide) ?_
  refine r_ki hw (r_runS (rest := []) hC hw (c_X9_isIn l _ _ 66 39 58) 3 gX9_names_X9_isIn rfl rfl rfl (by decide +kernel) ⟨Nat.le_of_ble_eq_true rfl, Nat.le_of_ble_eq_true rfl⟩ rfl hl.1 rfl (Nat.le_of_ble_eq_true rfl) dX9_names_416 ⟨Nat.le_of_ble_eq_true rfl, Nat.le_of_ble_eq_true rfl⟩) (fun r_14 u_15 H locs h_13 hw => ?_)
  rw [if_neg (by decide)] at h_13
  subst h_13
  refine lv_if_eq (tgt := 483) hx hb dX9_names_419 (by decide) (fun _ => ?_) (fun c_ => absurd (by decide) c_)
  refine lv_iload_n hx hb dX9_names_483 rfl (lv_at hl 3 rfl) ?_
  refine lv_bipush (v := 59) hx hb dX9_names_484 (by decide) ?_
  refine lv_bipush (v := 66) hx hb dX9_names_486 (by decide) ?_
  refine r_ki hw (r_runS (rest := []) hC hw (c_X9_isIn l _ _ 66 59 66) 3 gX9_names_X9_isIn rfl rfl rfl (by decide +kernel) ⟨Nat.le_of_ble_eq_true rfl, Nat.le_of_ble_eq_true rfl⟩ rfl hl.1 rfl (Nat.le_of_ble_eq_true rfl) dX9_names_488 ⟨Nat.le_of_ble_eq_true rfl, Nat.le_of_ble_eq_true rfl⟩) (fun r_17 u_18 H locs h_16 hw => ?_)
  rw [if_pos (by decide)] at h_16
  subst h_16
  refine lv_if_eq (tgt := 546) hx hb dX9_names_491 (by decide) (fun c_ => absurd c_ (by decide)) (fun _ => ?_)
  refine lv_iload_n hx hb dX9_names_494 rfl (lv_at hl 3 rfl) ?_
  refine lv_bipush (v := 61) hx hb dX9_names_495 (by decide) ?_
  refine lv_icmp_eq (tgt := 506) hx hb dX9_names_497 (by decide) (fun c_ => absurd c_ (by decide)) (fun _ => ?_)
  refine lv_iload_n hx hb dX9_names_500 rfl (lv_at hl 3 rfl) ?_
  refine lv_bipush (v := 62) hx hb dX9_names_501 (by decide) ?_
  refine lv_icmp_ne (tgt := 510) hx hb dX9_names_503 (by decide) (fun _ => ?_) (fun c_ => absurd c_ (by decide))
  refine lv_iload_n hx hb dX9_names_510 rfl (lv_at hl 3 rfl) ?_
  refine lv_bipush (v := 63) hx hb dX9_names_511 (by decide) ?_
  refine lv_icmp_eq (tgt := 522) hx hb dX9_names_513 (by decide) (fun c_ => absurd c_ (by decide)) (fun _ => ?_)
  refine lv_iload_n hx hb dX9_names_516 rfl (lv_at hl 3 rfl) ?_
  refine lv_bipush (v := 64) hx hb dX9_names_517 (by decide) ?_
  refine lv_icmp_ne (tgt := 526) hx hb dX9_names_519 (by decide) (fun _ => ?_) (fun c_ => absurd c_ (by decide))
  refine lv_iconst (v := 1) hx hb dX9_names_526 (by decide) ?_
  refine lv_istore_n (lv' := [(2, .int 1), (4, .int 0), (3, .int 0), (0, .int 66), (1, .int wh)]) hx hb dX9_names_527 rfl hl (by decide) rfl (fun ls hl => ?_)
  refine lv_iconst (v := 5) hx hb dX9_names_528 (by decide) ?_
  refine lv_istore_n (lv' := [(3, .int 5), (2, .int 1), (4, .int 0), (0, .int 66), (1, .int wh)]) hx hb dX9_names_529 rfl hl (by decide) rfl (fun ls hl => ?_)
  refine lv_iload_n hx hb dX9_names_530 rfl (lv_at hl 3 rfl) ?_
  refine lv_bipush (v := 65) hx hb dX9_names_531 (by decide) ?_
  refine lv_icmp_lt (tgt := 540) hx hb dX9_names_533 (by decide) (fun c_ => absurd c_ (by decide)) (fun _ => ?_)
  refine lv_iconst (v := 1) hx hb dX9_names_536 (by decide) ?_
  refine lv_goto (tgt := 541) hx hb dX9_names_537 (by decide) ?_
  refine lv_istore (lv' := [(4, .int 1), (3, .int 5), (2, .int 1), (0, .int 66), (1, .int wh)]) hx hb dX9_names_541 hl (by decide) rfl (fun ls hl => ?_)
  refine lv_goto (tgt := 605) hx hb dX9_names_543 (by decide) ?_
  refine lv_iload_n hx hb dX9_names_605 rfl (lv_at hl 4 rfl) ?_
  refine lv_if_ne (tgt := 613) hx hb dX9_names_606 (by decide) (fun c_19 => ?_) (fun c_19 => ?_)
  · refine lv_iload_n hx hb dX9_names_613 rfl (lv_at hl 4 rfl) ?_
    refine lv_iconst (v := 1) hx hb dX9_names_614 (by decide) ?_
    refine lv_icmp_ne (tgt := 622) hx hb dX9_names_615 (by decide) (fun c_20 => ?_) (fun c_20 => ?_)
    · refine lv_iload hx hb dX9_names_622 (lv_at hl 0 rfl) ?_
      exact r_iret hC hr hlk hw () rfl ((if_neg c_19).trans (if_neg c_20)).symm (Nat.le_of_ble_eq_true rfl) (Nat.le_of_ble_eq_true rfl) dX9_names_624
    · refine lv_iload_n hx hb dX9_names_618 rfl (lv_at hl 1 rfl) ?_
      refine lv_goto (tgt := 624) hx hb dX9_names_619 (by decide) ?_
      exact r_iret hC hr hlk hw () rfl ((if_neg c_19).trans (if_pos c_20)).symm (Nat.le_of_ble_eq_true rfl) (Nat.le_of_ble_eq_true rfl) dX9_names_624
  · refine lv_iload_n hx hb dX9_names_609 rfl (lv_at hl 2 rfl) ?_
    refine lv_goto (tgt := 624) hx hb dX9_names_610 (by decide) ?_
    exact r_iret hC hr hlk hw () rfl (if_pos c_19).symm (Nat.le_of_ble_eq_true rfl) (Nat.le_of_ble_eq_true rfl) dX9_names_624

set_option maxHeartbeats 4000000 in
set_option maxRecDepth 100000 in
theorem c_X9_names_67 (l : Launch) {D : va_G} {q : Nat → ClassId} (w : wT) (sz : Nat) (wh : Int32) : Met l yX9_names wsX9_names (rmz 1 22) (va_Pc [.int 67, .int wh] (rPre D q w sz)) (va_Qi (fun (r : Int32) (u : Unit) => r = if wh = 0 then 5 else if wh = 1 then 1 else 5) (fun (u : Unit) tt => rPo D (rA w sz) w tt) (rA w sz)) 0 0 (rA w sz) := by
  refine r_start (cc := cX9_names) (maxL := 6) (ret := (some .int)) (by decide) rfl (Nat.le_of_ble_eq_true rfl) ?_
  intro p e s m below meth c ls hC hr hlk hnm hsz hw hl
  have hx := hC.1
  have hb := hC.2.1
  have hl : lv_has ls 6 [(0, .int 67), (1, .int wh)] := hl
  refine lv_iconst (v := 0) hx hb dX9_names_0 (by decide) ?_
  refine lv_istore_n (lv' := [(2, .int 0), (0, .int 67), (1, .int wh)]) hx hb dX9_names_1 rfl hl (by decide) rfl (fun ls hl => ?_)
  refine lv_iconst (v := 0) hx hb dX9_names_2 (by decide) ?_
  refine lv_istore_n (lv' := [(3, .int 0), (2, .int 0), (0, .int 67), (1, .int wh)]) hx hb dX9_names_3 rfl hl (by decide) rfl (fun ls hl => ?_)
  refine lv_iconst (v := 0) hx hb dX9_names_4 (by decide) ?_
  refine lv_istore (lv' := [(4, .int 0), (3, .int 0), (2, .int 0), (0, .int 67), (1, .int wh)]) hx hb dX9_names_5 hl (by decide) rfl (fun ls hl => ?_)
  refine lv_iload_n hx hb dX9_names_7 rfl (lv_at hl 3 rfl) ?_
  refine lv_iconst (v := 1) hx hb dX9_names_8 (by decide) ?_
  refine lv_icmp_eq (tgt := 24) hx hb dX9_names_9 (by decide) (fun c_ => absurd c_ (by decide)) (fun _ => ?_)
  refine lv_iload_n hx hb dX9_names_12 rfl (lv_at hl 3 rfl) ?_
  refine lv_bipush (v := 72) hx hb dX9_names_13 (by decide) ?_
  refine lv_icmp_eq (tgt := 24) hx hb dX9_names_15 (by decide) (fun c_ => absurd c_ (by decide)) (fun _ => ?_)
  refine lv_iload_n hx hb dX9_names_18 rfl (lv_at hl 3 rfl) ?_
  refine lv_bipush (v := 73) hx hb dX9_names_19 (by decide) ?_
  refine lv_icmp_ne (tgt := 29) hx hb dX9_names_21 (by decide) (fun _ => ?_) (fun c_ => absurd c_ (by decide))
  refine lv_iload_n hx hb dX9_names_29 rfl (lv_at hl 3 rfl) ?_
  refine lv_iconst (v := 2) hx hb dX9_names_30 (by decide) ?_
  refine lv_icmp_ne (tgt := 39) hx hb dX9_names_31 (by decide) (fun _ => ?_) (fun c_ => absurd c_ (by decide))
  refine lv_iload_n hx hb dX9_names_39 rfl (lv_at hl 3 rfl) ?_
  refine lv_iconst (v := 3) hx hb dX9_names_40 (by decide) ?_
  refine lv_icmp_ne (tgt := 51) hx hb dX9_names_41 (by decide) (fun _ => ?_) (fun c_ => absurd c_ (by decide))
  refine lv_iload_n hx hb dX9_names_51 rfl (lv_at hl 3 rfl) ?_
  refine lv_iconst (v := 4) hx hb dX9_names_52 (by decide) ?_
  refine lv_bipush (v := 8) hx hb dX9_names_53 (by decide) ?_
  refine r_ki hw (r_runS (rest := []) hC hw (c_X9_isIn l _ _ 67 4 8) 3 gX9_names_X9_isIn rfl rfl rfl (by decide +kernel) ⟨Nat.le_of_ble_eq_true rfl, Nat.le_of_ble_eq_true rfl⟩ rfl hl.1 rfl (Nat.le_of_ble_eq_true rfl) dX9_names_55 ⟨Nat.le_of_ble_eq_true rfl, Nat.le_of_ble_eq_true rfl⟩) (fun r_2 u_3 H locs h_1 hw => ?_)
  rw [if_neg (by decide)] at h_1
  subst h_1
  refine lv_if_ne (tgt := 67) hx hb dX9_names_58 (by decide) (fun c_ => absurd (by decide) c_) (fun _ => ?_)
  refine lv_iload_n hx hb dX9_names_61 rfl (lv_at hl 3 rfl) ?_
  refine lv_bipush (v := 25) hx hb dX9_names_62 (by decide) ?_
  refine lv_icmp_ne (tgt := 77) hx hb dX9_names_64 (by decide) (fun _ => ?_) (fun c_ => absurd c_ (by decide))
  refine lv_iload_n hx hb dX9_names_77 rfl (lv_at hl 3 rfl) ?_
  refine lv_bipush (v := 9) hx hb dX9_names_78 (by decide) ?_
  refine lv_bipush (v := 12) hx hb dX9_names_80 (by decide) ?_
  refine r_ki hw (r_runS (rest := []) hC hw (c_X9_isIn l _ _ 67 9 12) 3 gX9_names_X9_isIn rfl rfl rfl (by decide +kernel) ⟨Nat.le_of_ble_eq_true rfl, Nat.le_of_ble_eq_true rfl⟩ rfl hl.1 rfl (Nat.le_of_ble_eq_true rfl) dX9_names_82 ⟨Nat.le_of_ble_eq_true rfl, Nat.le_of_ble_eq_true rfl⟩) (fun r_5 u_6 H locs h_4 hw => ?_)
  rw [if_neg (by decide)] at h_4
  subst h_4
  refine lv_if_eq (tgt := 98) hx hb dX9_names_85 (by decide) (fun _ => ?_) (fun c_ => absurd (by decide) c_)
  refine lv_iload_n hx hb dX9_names_98 rfl (lv_at hl 3 rfl) ?_
  refine lv_bipush (v := 13) hx hb dX9_names_99 (by decide) ?_
  refine lv_bipush (v := 24) hx hb dX9_names_101 (by decide) ?_
  refine r_ki hw (r_runS (rest := []) hC hw (c_X9_isIn l _ _ 67 13 24) 3 gX9_names_X9_isIn rfl rfl rfl (by decide +kernel) ⟨Nat.le_of_ble_eq_true rfl, Nat.le_of_ble_eq_true rfl⟩ rfl hl.1 rfl (Nat.le_of_ble_eq_true rfl) dX9_names_103 ⟨Nat.le_of_ble_eq_true rfl, Nat.le_of_ble_eq_true rfl⟩) (fun r_8 u_9 H locs h_7 hw => ?_)
  rw [if_neg (by decide)] at h_7
  subst h_7
  refine lv_if_ne (tgt := 115) hx hb dX9_names_106 (by decide) (fun c_ => absurd (by decide) c_) (fun _ => ?_)
  refine lv_iload_n hx hb dX9_names_109 rfl (lv_at hl 3 rfl) ?_
  refine lv_bipush (v := 26) hx hb dX9_names_110 (by decide) ?_
  refine lv_icmp_ne (tgt := 270) hx hb dX9_names_112 (by decide) (fun _ => ?_) (fun c_ => absurd c_ (by decide))
  refine lv_iload_n hx hb dX9_names_270 rfl (lv_at hl 3 rfl) ?_
  refine lv_bipush (v := 27) hx hb dX9_names_271 (by decide) ?_
  refine lv_icmp_eq (tgt := 282) hx hb dX9_names_273 (by decide) (fun c_ => absurd c_ (by decide)) (fun _ => ?_)
  refine lv_iload_n hx hb dX9_names_276 rfl (lv_at hl 3 rfl) ?_
  refine lv_bipush (v := 29) hx hb dX9_names_277 (by decide) ?_
  refine lv_icmp_ne (tgt := 288) hx hb dX9_names_279 (by decide) (fun _ => ?_) (fun c_ => absurd c_ (by decide))
  refine lv_iload_n hx hb dX9_names_288 rfl (lv_at hl 3 rfl) ?_
  refine lv_bipush (v := 28) hx hb dX9_names_289 (by decide) ?_
  refine lv_icmp_ne (tgt := 302) hx hb dX9_names_291 (by decide) (fun _ => ?_) (fun c_ => absurd c_ (by decide))
  refine lv_iload_n hx hb dX9_names_302 rfl (lv_at hl 3 rfl) ?_
  refine lv_bipush (v := 31) hx hb dX9_names_303 (by decide) ?_
  refine lv_bipush (v := 38) hx hb dX9_names_305 (by decide) ?_
  refine r_ki hw (r_runS (rest := []) hC hw (c_X9_isIn l _ _ 67 31 38) 3 gX9_names_X9_isIn rfl rfl rfl (by decide +kernel) ⟨Nat.le_of_ble_eq_true rfl, Nat.le_of_ble_eq_true rfl⟩ rfl hl.1 rfl (Nat.le_of_ble_eq_true rfl) dX9_names_307 ⟨Nat.le_of_ble_eq_true rfl, Nat.le_of_ble_eq_true rfl⟩) (fun r_11 u_12 H locs h_10 hw => ?_)
  rw [if_neg (by decide)] at h_10
  subst h_10
  refine lv_if_eq (tgt := 411) hx hb dX9_names_310 (by decide) (fun _ => ?_) (fun c_ => absurd (by decide) c_)
  refine lv_iload_n hx hb dX9_names_411 rfl (lv_at hl 3 rfl) ?_
  refine lv_bipush (v := 39) hx hb dX9_names_412 (by decide) ?_
  refine lv_bipush (v := 58) hx hb dX9_names_414 (by decide) ?_
  refine r_ki hw (r_runS (rest := []) hC hw (c_X9_isIn l _ _ 67 39 58) 3 gX9_names_X9_isIn rfl rfl rfl (by decide +kernel) ⟨Nat.le_of_ble_eq_true rfl, Nat.le_of_ble_eq_true rfl⟩ rfl hl.1 rfl (Nat.le_of_ble_eq_true rfl) dX9_names_416 ⟨Nat.le_of_ble_eq_true rfl, Nat.le_of_ble_eq_true rfl⟩) (fun r_14 u_15 H locs h_13 hw => ?_)
  rw [if_neg (by decide)] at h_13
  subst h_13
  refine lv_if_eq (tgt := 483) hx hb dX9_names_419 (by decide) (fun _ => ?_) (fun c_ => absurd (by decide) c_)
  refine lv_iload_n hx hb dX9_names_483 rfl (lv_at hl 3 rfl) ?_
  refine lv_bipush (v := 59) hx hb dX9_names_484 (by decide) ?_
  refine lv_bipush (v := 66) hx hb dX9_names_486 (by decide) ?_
  refine r_ki hw (r_runS (rest := []) hC hw (c_X9_isIn l _ _ 67 59 66) 3 gX9_names_X9_isIn rfl rfl rfl (by decide +kernel) ⟨Nat.le_of_ble_eq_true rfl, Nat.le_of_ble_eq_true rfl⟩ rfl hl.1 rfl (Nat.le_of_ble_eq_true rfl) dX9_names_488 ⟨Nat.le_of_ble_eq_true rfl, Nat.le_of_ble_eq_true rfl⟩) (fun r_17 u_18 H locs h_16 hw => ?_)
  rw [if_neg (by decide)] at h_16
  subst h_16
  refine lv_if_eq (tgt := 546) hx hb dX9_names_491 (by decide) (fun _ => ?_) (fun c_ => absurd (by decide) c_)
  refine lv_iload_n hx hb dX9_names_546 rfl (lv_at hl 3 rfl) ?_
  refine lv_bipush (v := 67) hx hb dX9_names_547 (by decide) ?_
  refine lv_icmp_ne (tgt := 562) hx hb dX9_names_549 (by decide) (fun c_ => absurd (by decide) c_) (fun _ => ?_)
  refine lv_iconst (v := 5) hx hb dX9_names_552 (by decide) ?_
  refine lv_istore_n (lv' := [(2, .int 5), (4, .int 0), (3, .int 0), (0, .int 67), (1, .int wh)]) hx hb dX9_names_553 rfl hl (by decide) rfl (fun ls hl => ?_)
  refine lv_iconst (v := 1) hx hb dX9_names_554 (by decide) ?_
  refine lv_istore_n (lv' := [(3, .int 1), (2, .int 5), (4, .int 0), (0, .int 67), (1, .int wh)]) hx hb dX9_names_555 rfl hl (by decide) rfl (fun ls hl => ?_)
  refine lv_iconst (v := 5) hx hb dX9_names_556 (by decide) ?_
  refine lv_istore (lv' := [(4, .int 5), (3, .int 1), (2, .int 5), (0, .int 67), (1, .int wh)]) hx hb dX9_names_557 hl (by decide) rfl (fun ls hl => ?_)
  refine lv_goto (tgt := 605) hx hb dX9_names_559 (by decide) ?_
  refine lv_iload_n hx hb dX9_names_605 rfl (lv_at hl 4 rfl) ?_
  refine lv_if_ne (tgt := 613) hx hb dX9_names_606 (by decide) (fun c_19 => ?_) (fun c_19 => ?_)
  · refine lv_iload_n hx hb dX9_names_613 rfl (lv_at hl 4 rfl) ?_
    refine lv_iconst (v := 1) hx hb dX9_names_614 (by decide) ?_
    refine lv_icmp_ne (tgt := 622) hx hb dX9_names_615 (by decide) (fun c_20 => ?_) (fun c_20 => ?_)
    · refine lv_iload hx hb dX9_names_622 (lv_at hl 0 rfl) ?_
      exact r_iret hC hr hlk hw () rfl ((if_neg c_19).trans (if_neg c_20)).symm (Nat.le_of_ble_eq_true rfl) (Nat.le_of_ble_eq_true rfl) dX9_names_624
    · refine lv_iload_n hx hb dX9_names_618 rfl (lv_at hl 1 rfl) ?_
      refine lv_goto (tgt := 624) hx hb dX9_names_619 (by decide) ?_
      exact r_iret hC hr hlk hw () rfl ((if_neg c_19).trans (if_pos c_20)).symm (Nat.le_of_ble_eq_true rfl) (Nat.le_of_ble_eq_true rfl) dX9_names_624
  · refine lv_iload_n hx hb dX9_names_609 rfl (lv_at hl 2 rfl) ?_
    refine lv_goto (tgt := 624) hx hb dX9_names_610 (by decide) ?_
    exact r_iret hC hr hlk hw () rfl (if_pos c_19).symm (Nat.le_of_ble_eq_true rfl) (Nat.le_of_ble_eq_true rfl) dX9_names_624

set_option maxHeartbeats 4000000 in
set_option maxRecDepth 100000 in
theorem c_X9_names_68 (l : Launch) {D : va_G} {q : Nat → ClassId} (w : wT) (sz : Nat) (wh : Int32) : Met l yX9_names wsX9_names (rmz 1 22) (va_Pc [.int 68, .int wh] (rPre D q w sz)) (va_Qi (fun (r : Int32) (u : Unit) => r = if wh = 0 then 5 else if wh = 1 then 0 else 0) (fun (u : Unit) tt => rPo D (rA w sz) w tt) (rA w sz)) 0 0 (rA w sz) := by
  refine r_start (cc := cX9_names) (maxL := 6) (ret := (some .int)) (by decide) rfl (Nat.le_of_ble_eq_true rfl) ?_
  intro p e s m below meth c ls hC hr hlk hnm hsz hw hl
  have hx := hC.1
  have hb := hC.2.1
  have hl : lv_has ls 6 [(0, .int 68), (1, .int wh)] := hl
  refine lv_iconst (v := 0) hx hb dX9_names_0 (by decide) ?_
  refine lv_istore_n (lv' := [(2, .int 0), (0, .int 68), (1, .int wh)]) hx hb dX9_names_1 rfl hl (by decide) rfl (fun ls hl => ?_)
  refine lv_iconst (v := 0) hx hb dX9_names_2 (by decide) ?_
  refine lv_istore_n (lv' := [(3, .int 0), (2, .int 0), (0, .int 68), (1, .int wh)]) hx hb dX9_names_3 rfl hl (by decide) rfl (fun ls hl => ?_)
  refine lv_iconst (v := 0) hx hb dX9_names_4 (by decide) ?_
  refine lv_istore (lv' := [(4, .int 0), (3, .int 0), (2, .int 0), (0, .int 68), (1, .int wh)]) hx hb dX9_names_5 hl (by decide) rfl (fun ls hl => ?_)
  refine lv_iload_n hx hb dX9_names_7 rfl (lv_at hl 3 rfl) ?_
  refine lv_iconst (v := 1) hx hb dX9_names_8 (by decide) ?_
  refine lv_icmp_eq (tgt := 24) hx hb dX9_names_9 (by decide) (fun c_ => absurd c_ (by decide)) (fun _ => ?_)
  refine lv_iload_n hx hb dX9_names_12 rfl (lv_at hl 3 rfl) ?_
  refine lv_bipush (v := 72) hx hb dX9_names_13 (by decide) ?_
  refine lv_icmp_eq (tgt := 24) hx hb dX9_names_15 (by decide) (fun c_ => absurd c_ (by decide)) (fun _ => ?_)
  refine lv_iload_n hx hb dX9_names_18 rfl (lv_at hl 3 rfl) ?_
  refine lv_bipush (v := 73) hx hb dX9_names_19 (by decide) ?_
  refine lv_icmp_ne (tgt := 29) hx hb dX9_names_21 (by decide) (fun _ => ?_) (fun c_ => absurd c_ (by decide))
  refine lv_iload_n hx hb dX9_names_29 rfl (lv_at hl 3 rfl) ?_
  refine lv_iconst (v := 2) hx hb dX9_names_30 (by decide) ?_
  refine lv_icmp_ne (tgt := 39) hx hb dX9_names_31 (by decide) (fun _ => ?_) (fun c_ => absurd c_ (by decide))
  refine lv_iload_n hx hb dX9_names_39 rfl (lv_at hl 3 rfl) ?_
  refine lv_iconst (v := 3) hx hb dX9_names_40 (by decide) ?_
  refine lv_icmp_ne (tgt := 51) hx hb dX9_names_41 (by decide) (fun _ => ?_) (fun c_ => absurd c_ (by decide))
  refine lv_iload_n hx hb dX9_names_51 rfl (lv_at hl 3 rfl) ?_
  refine lv_iconst (v := 4) hx hb dX9_names_52 (by decide) ?_
  refine lv_bipush (v := 8) hx hb dX9_names_53 (by decide) ?_
  refine r_ki hw (r_runS (rest := []) hC hw (c_X9_isIn l _ _ 68 4 8) 3 gX9_names_X9_isIn rfl rfl rfl (by decide +kernel) ⟨Nat.le_of_ble_eq_true rfl, Nat.le_of_ble_eq_true rfl⟩ rfl hl.1 rfl (Nat.le_of_ble_eq_true rfl) dX9_names_55 ⟨Nat.le_of_ble_eq_true rfl, Nat.le_of_ble_eq_true rfl⟩) (fun r_2 u_3 H locs h_1 hw => ?_)
  rw [if_neg (by decide)] at h_1
  subst h_1
  refine lv_if_ne (tgt := 67) hx hb dX9_names_58 (by decide) (fun c_ => absurd (by decide) c_) (fun _ => ?_)
  refine lv_iload_n hx hb dX9_names_61 rfl (lv_at hl 3 rfl) ?_
  refine lv_bipush (v := 25) hx hb dX9_names_62 (by decide) ?_
  refine lv_icmp_ne (tgt := 77) hx hb dX9_names_64 (by decide) (fun _ => ?_) (fun c_ => absurd c_ (by decide))
  refine lv_iload_n hx hb dX9_names_77 rfl (lv_at hl 3 rfl) ?_
  refine lv_bipush (v := 9) hx hb dX9_names_78 (by decide) ?_
  refine lv_bipush (v := 12) hx hb dX9_names_80 (by decide) ?_
  refine r_ki hw (r_runS (rest := []) hC hw (c_X9_isIn l _ _ 68 9 12) 3 gX9_names_X9_isIn rfl rfl rfl (by decide +kernel) ⟨Nat.le_of_ble_eq_true rfl, Nat.le_of_ble_eq_true rfl⟩ rfl hl.1 rfl (Nat.le_of_ble_eq_true rfl) dX9_names_82 ⟨Nat.le_of_ble_eq_true rfl, Nat.le_of_ble_eq_true rfl⟩) (fun r_5 u_6 H locs h_4 hw => ?_)
  rw [if_neg (by decide)] at h_4
  subst h_4
  refine lv_if_eq (tgt := 98) hx hb dX9_names_85 (by decide) (fun _ => ?_) (fun c_ => absurd (by decide) c_)
  refine lv_iload_n hx hb dX9_names_98 rfl (lv_at hl 3 rfl) ?_
  refine lv_bipush (v := 13) hx hb dX9_names_99 (by decide) ?_
  refine lv_bipush (v := 24) hx hb dX9_names_101 (by decide) ?_
  refine r_ki hw (r_runS (rest := []) hC hw (c_X9_isIn l _ _ 68 13 24) 3 gX9_names_X9_isIn rfl rfl rfl (by decide +kernel) ⟨Nat.le_of_ble_eq_true rfl, Nat.le_of_ble_eq_true rfl⟩ rfl hl.1 rfl (Nat.le_of_ble_eq_true rfl) dX9_names_103 ⟨Nat.le_of_ble_eq_true rfl, Nat.le_of_ble_eq_true rfl⟩) (fun r_8 u_9 H locs h_7 hw => ?_)
  rw [if_neg (by decide)] at h_7
  subst h_7
  refine lv_if_ne (tgt := 115) hx hb dX9_names_106 (by decide) (fun c_ => absurd (by decide) c_) (fun _ => ?_)
  refine lv_iload_n hx hb dX9_names_109 rfl (lv_at hl 3 rfl) ?_
  refine lv_bipush (v := 26) hx hb dX9_names_110 (by decide) ?_
  refine lv_icmp_ne (tgt := 270) hx hb dX9_names_112 (by decide) (fun _ => ?_) (fun c_ => absurd c_ (by decide))
  refine lv_iload_n hx hb dX9_names_270 rfl (lv_at hl 3 rfl) ?_
  refine lv_bipush (v := 27) hx hb dX9_names_271 (by decide) ?_
  refine lv_icmp_eq (tgt := 282) hx hb dX9_names_273 (by decide) (fun c_ => absurd c_ (by decide)) (fun _ => ?_)
  refine lv_iload_n hx hb dX9_names_276 rfl (lv_at hl 3 rfl) ?_
  refine lv_bipush (v := 29) hx hb dX9_names_277 (by decide) ?_
  refine lv_icmp_ne (tgt := 288) hx hb dX9_names_279 (by decide) (fun _ => ?_) (fun c_ => absurd c_ (by decide))
  refine lv_iload_n hx hb dX9_names_288 rfl (lv_at hl 3 rfl) ?_
  refine lv_bipush (v := 28) hx hb dX9_names_289 (by decide) ?_
  refine lv_icmp_ne (tgt := 302) hx hb dX9_names_291 (by decide) (fun _ => ?_) (fun c_ => absurd c_ (by decide))
  refine lv_iload_n hx hb dX9_names_302 rfl (lv_at hl 3 rfl) ?_
  refine lv_bipush (v := 31) hx hb dX9_names_303 (by decide) ?_
  refine lv_bipush (v := 38) hx hb dX9_names_305 (by decide) ?_
  refine r_ki hw (r_runS (rest := []) hC hw (c_X9_isIn l _ _ 68 31 38) 3 gX9_names_X9_isIn rfl rfl rfl (by decide +kernel) ⟨Nat.le_of_ble_eq_true rfl, Nat.le_of_ble_eq_true rfl⟩ rfl hl.1 rfl (Nat.le_of_ble_eq_true rfl) dX9_names_307 ⟨Nat.le_of_ble_eq_true rfl, Nat.le_of_ble_eq_true rfl⟩) (fun r_11 u_12 H locs h_10 hw => ?_)
  rw [if_neg (by decide)] at h_10
  subst h_10
  refine lv_if_eq (tgt := 411) hx hb dX9_names_310 (by decide) (fun _ => ?_) (fun c_ => absurd (by decide) c_)
  refine lv_iload_n hx hb dX9_names_411 rfl (lv_at hl 3 rfl) ?_
  refine lv_bipush (v := 39) hx hb dX9_names_412 (by decide) ?_
  refine lv_bipush (v := 58) hx hb dX9_names_414 (by decide) ?_
  refine r_ki hw (r_runS (rest := []) hC hw (c_X9_isIn l _ _ 68 39 58) 3 gX9_names_X9_isIn rfl rfl rfl (by decide +kernel) ⟨Nat.le_of_ble_eq_true rfl, Nat.le_of_ble_eq_true rfl⟩ rfl hl.1 rfl (Nat.le_of_ble_eq_true rfl) dX9_names_416 ⟨Nat.le_of_ble_eq_true rfl, Nat.le_of_ble_eq_true rfl⟩) (fun r_14 u_15 H locs h_13 hw => ?_)
  rw [if_neg (by decide)] at h_13
  subst h_13
  refine lv_if_eq (tgt := 483) hx hb dX9_names_419 (by decide) (fun _ => ?_) (fun c_ => absurd (by decide) c_)
  refine lv_iload_n hx hb dX9_names_483 rfl (lv_at hl 3 rfl) ?_
  refine lv_bipush (v := 59) hx hb dX9_names_484 (by decide) ?_
  refine lv_bipush (v := 66) hx hb dX9_names_486 (by decide) ?_
  refine r_ki hw (r_runS (rest := []) hC hw (c_X9_isIn l _ _ 68 59 66) 3 gX9_names_X9_isIn rfl rfl rfl (by decide +kernel) ⟨Nat.le_of_ble_eq_true rfl, Nat.le_of_ble_eq_true rfl⟩ rfl hl.1 rfl (Nat.le_of_ble_eq_true rfl) dX9_names_488 ⟨Nat.le_of_ble_eq_true rfl, Nat.le_of_ble_eq_true rfl⟩) (fun r_17 u_18 H locs h_16 hw => ?_)
  rw [if_neg (by decide)] at h_16
  subst h_16
  refine lv_if_eq (tgt := 546) hx hb dX9_names_491 (by decide) (fun _ => ?_) (fun c_ => absurd (by decide) c_)
  refine lv_iload_n hx hb dX9_names_546 rfl (lv_at hl 3 rfl) ?_
  refine lv_bipush (v := 67) hx hb dX9_names_547 (by decide) ?_
  refine lv_icmp_ne (tgt := 562) hx hb dX9_names_549 (by decide) (fun _ => ?_) (fun c_ => absurd c_ (by decide))
  refine lv_iload_n hx hb dX9_names_562 rfl (lv_at hl 3 rfl) ?_
  refine lv_bipush (v := 68) hx hb dX9_names_563 (by decide) ?_
  refine lv_icmp_eq (tgt := 574) hx hb dX9_names_565 (by decide) (fun _ => ?_) (fun c_ => absurd (by decide) c_)
  refine lv_iconst (v := 5) hx hb dX9_names_574 (by decide) ?_
  refine lv_istore_n (lv' := [(2, .int 5), (4, .int 0), (3, .int 0), (0, .int 68), (1, .int wh)]) hx hb dX9_names_575 rfl hl (by decide) rfl (fun ls hl => ?_)
  refine lv_goto (tgt := 605) hx hb dX9_names_576 (by decide) ?_
  refine lv_iload_n hx hb dX9_names_605 rfl (lv_at hl 4 rfl) ?_
  refine lv_if_ne (tgt := 613) hx hb dX9_names_606 (by decide) (fun c_19 => ?_) (fun c_19 => ?_)
  · refine lv_iload_n hx hb dX9_names_613 rfl (lv_at hl 4 rfl) ?_
    refine lv_iconst (v := 1) hx hb dX9_names_614 (by decide) ?_
    refine lv_icmp_ne (tgt := 622) hx hb dX9_names_615 (by decide) (fun c_20 => ?_) (fun c_20 => ?_)
    · refine lv_iload hx hb dX9_names_622 (lv_at hl 1 rfl) ?_
      exact r_iret hC hr hlk hw () rfl ((if_neg c_19).trans (if_neg c_20)).symm (Nat.le_of_ble_eq_true rfl) (Nat.le_of_ble_eq_true rfl) dX9_names_624
    · refine lv_iload_n hx hb dX9_names_618 rfl (lv_at hl 2 rfl) ?_
      refine lv_goto (tgt := 624) hx hb dX9_names_619 (by decide) ?_
      exact r_iret hC hr hlk hw () rfl ((if_neg c_19).trans (if_pos c_20)).symm (Nat.le_of_ble_eq_true rfl) (Nat.le_of_ble_eq_true rfl) dX9_names_624
  · refine lv_iload_n hx hb dX9_names_609 rfl (lv_at hl 0 rfl) ?_
    refine lv_goto (tgt := 624) hx hb dX9_names_610 (by decide) ?_
    exact r_iret hC hr hlk hw () rfl (if_pos c_19).symm (Nat.le_of_ble_eq_true rfl) (Nat.le_of_ble_eq_true rfl) dX9_names_624

set_option maxHeartbeats 4000000 in
set_option maxRecDepth 100000 in
theorem c_X9_names_69 (l : Launch) {D : va_G} {q : Nat → ClassId} (w : wT) (sz : Nat) (wh : Int32) : Met l yX9_names wsX9_names (rmz 1 22) (va_Pc [.int 69, .int wh] (rPre D q w sz)) (va_Qi (fun (r : Int32) (u : Unit) => r = if wh = 0 then 5 else if wh = 1 then 0 else 0) (fun (u : Unit) tt => rPo D (rA w sz) w tt) (rA w sz)) 0 0 (rA w sz) := by
  refine r_start (cc := cX9_names) (maxL := 6) (ret := (some .int)) (by decide) rfl (Nat.le_of_ble_eq_true rfl) ?_
  intro p e s m below meth c ls hC hr hlk hnm hsz hw hl
  have hx := hC.1
  have hb := hC.2.1
  have hl : lv_has ls 6 [(0, .int 69), (1, .int wh)] := hl
  refine lv_iconst (v := 0) hx hb dX9_names_0 (by decide) ?_
  refine lv_istore_n (lv' := [(2, .int 0), (0, .int 69), (1, .int wh)]) hx hb dX9_names_1 rfl hl (by decide) rfl (fun ls hl => ?_)
  refine lv_iconst (v := 0) hx hb dX9_names_2 (by decide) ?_
  refine lv_istore_n (lv' := [(3, .int 0), (2, .int 0), (0, .int 69), (1, .int wh)]) hx hb dX9_names_3 rfl hl (by decide) rfl (fun ls hl => ?_)
  refine lv_iconst (v := 0) hx hb dX9_names_4 (by decide) ?_
  refine lv_istore (lv' := [(4, .int 0), (3, .int 0), (2, .int 0), (0, .int 69), (1, .int wh)]) hx hb dX9_names_5 hl (by decide) rfl (fun ls hl => ?_)
  refine lv_iload_n hx hb dX9_names_7 rfl (lv_at hl 3 rfl) ?_
  refine lv_iconst (v := 1) hx hb dX9_names_8 (by decide) ?_
  refine lv_icmp_eq (tgt := 24) hx hb dX9_names_9 (by decide) (fun c_ => absurd c_ (by decide)) (fun _ => ?_)
  refine lv_iload_n hx hb dX9_names_12 rfl (lv_at hl 3 rfl) ?_
  refine lv_bipush (v := 72) hx hb dX9_names_13 (by decide) ?_
  refine lv_icmp_eq (tgt := 24) hx hb dX9_names_15 (by decide) (fun c_ => absurd c_ (by decide)) (fun _ => ?_)
  refine lv_iload_n hx hb dX9_names_18 rfl (lv_at hl 3 rfl) ?_
  refine lv_bipush (v := 73) hx hb dX9_names_19 (by decide) ?_
  refine lv_icmp_ne (tgt := 29) hx hb dX9_names_21 (by decide) (fun _ => ?_) (fun c_ => absurd c_ (by decide))
  refine lv_iload_n hx hb dX9_names_29 rfl (lv_at hl 3 rfl) ?_
  refine lv_iconst (v := 2) hx hb dX9_names_30 (by decide) ?_
  refine lv_icmp_ne (tgt := 39) hx hb dX9_names_31 (by decide) (fun _ => ?_) (fun c_ => absurd c_ (by decide))
  refine lv_iload_n hx hb dX9_names_39 rfl (lv_at hl 3 rfl) ?_
  refine lv_iconst (v := 3) hx hb dX9_names_40 (by decide) ?_
  refine lv_icmp_ne (tgt := 51) hx hb dX9_names_41 (by decide) (fun _ => ?_) (fun c_ => absurd c_ (by decide))
  refine lv_iload_n hx hb dX9_names_51 rfl (lv_at hl 3 rfl) ?_
  refine lv_iconst (v := 4) hx hb dX9_names_52 (by decide) ?_
  refine lv_bipush (v := 8) hx hb dX9_names_53 (by decide) ?_
  refine r_ki hw (r_runS (rest := []) hC hw (c_X9_isIn l _ _ 69 4 8) 3 gX9_names_X9_isIn rfl rfl rfl (by decide +kernel) ⟨Nat.le_of_ble_eq_true rfl, Nat.le_of_ble_eq_true rfl⟩ rfl hl.1 rfl (Nat.le_of_ble_eq_true rfl) dX9_names_55 ⟨Nat.le_of_ble_eq_true rfl, Nat.le_of_ble_eq_true rfl⟩) (fun r_2 u_3 H locs h_1 hw => ?_)
  rw [if_neg (by decide)] at h_1
  subst h_1
  refine lv_if_ne (tgt := 67) hx hb dX9_names_58 (by decide) (fun c_ => absurd (by decide) c_) (fun _ => ?_)
  refine lv_iload_n hx hb dX9_names_61 rfl (lv_at hl 3 rfl) ?_
  refine lv_bipush (v := 25) hx hb dX9_names_62 (by decide) ?_
  refine lv_icmp_ne (tgt := 77) hx hb dX9_names_64 (by decide) (fun _ => ?_) (fun c_ => absurd c_ (by decide))
  refine lv_iload_n hx hb dX9_names_77 rfl (lv_at hl 3 rfl) ?_
  refine lv_bipush (v := 9) hx hb dX9_names_78 (by decide) ?_
  refine lv_bipush (v := 12) hx hb dX9_names_80 (by decide) ?_
  refine r_ki hw (r_runS (rest := []) hC hw (c_X9_isIn l _ _ 69 9 12) 3 gX9_names_X9_isIn rfl rfl rfl (by decide +kernel) ⟨Nat.le_of_ble_eq_true rfl, Nat.le_of_ble_eq_true rfl⟩ rfl hl.1 rfl (Nat.le_of_ble_eq_true rfl) dX9_names_82 ⟨Nat.le_of_ble_eq_true rfl, Nat.le_of_ble_eq_true rfl⟩) (fun r_5 u_6 H locs h_4 hw => ?_)
  rw [if_neg (by decide)] at h_4
  subst h_4
  refine lv_if_eq (tgt := 98) hx hb dX9_names_85 (by decide) (fun _ => ?_) (fun c_ => absurd (by decide) c_)
  refine lv_iload_n hx hb dX9_names_98 rfl (lv_at hl 3 rfl) ?_
  refine lv_bipush (v := 13) hx hb dX9_names_99 (by decide) ?_
  refine lv_bipush (v := 24) hx hb dX9_names_101 (by decide) ?_
  refine r_ki hw (r_runS (rest := []) hC hw (c_X9_isIn l _ _ 69 13 24) 3 gX9_names_X9_isIn rfl rfl rfl (by decide +kernel) ⟨Nat.le_of_ble_eq_true rfl, Nat.le_of_ble_eq_true rfl⟩ rfl hl.1 rfl (Nat.le_of_ble_eq_true rfl) dX9_names_103 ⟨Nat.le_of_ble_eq_true rfl, Nat.le_of_ble_eq_true rfl⟩) (fun r_8 u_9 H locs h_7 hw => ?_)
  rw [if_neg (by decide)] at h_7
  subst h_7
  refine lv_if_ne (tgt := 115) hx hb dX9_names_106 (by decide) (fun c_ => absurd (by decide) c_) (fun _ => ?_)
  refine lv_iload_n hx hb dX9_names_109 rfl (lv_at hl 3 rfl) ?_
  refine lv_bipush (v := 26) hx hb dX9_names_110 (by decide) ?_
  refine lv_icmp_ne (tgt := 270) hx hb dX9_names_112 (by decide) (fun _ => ?_) (fun c_ => absurd c_ (by decide))
  refine lv_iload_n hx hb dX9_names_270 rfl (lv_at hl 3 rfl) ?_
  refine lv_bipush (v := 27) hx hb dX9_names_271 (by decide) ?_
  refine lv_icmp_eq (tgt := 282) hx hb dX9_names_273 (by decide) (fun c_ => absurd c_ (by decide)) (fun _ => ?_)
  refine lv_iload_n hx hb dX9_names_276 rfl (lv_at hl 3 rfl) ?_
  refine lv_bipush (v := 29) hx hb dX9_names_277 (by decide) ?_
  refine lv_icmp_ne (tgt := 288) hx hb dX9_names_279 (by decide) (fun _ => ?_) (fun c_ => absurd c_ (by decide))
  refine lv_iload_n hx hb dX9_names_288 rfl (lv_at hl 3 rfl) ?_
  refine lv_bipush (v := 28) hx hb dX9_names_289 (by decide) ?_
  refine lv_icmp_ne (tgt := 302) hx hb dX9_names_291 (by decide) (fun _ => ?_) (fun c_ => absurd c_ (by decide))
  refine lv_iload_n hx hb dX9_names_302 rfl (lv_at hl 3 rfl) ?_
  refine lv_bipush (v := 31) hx hb dX9_names_303 (by decide) ?_
  refine lv_bipush (v := 38) hx hb dX9_names_305 (by decide) ?_
  refine r_ki hw (r_runS (rest := []) hC hw (c_X9_isIn l _ _ 69 31 38) 3 gX9_names_X9_isIn rfl rfl rfl (by decide +kernel) ⟨Nat.le_of_ble_eq_true rfl, Nat.le_of_ble_eq_true rfl⟩ rfl hl.1 rfl (Nat.le_of_ble_eq_true rfl) dX9_names_307 ⟨Nat.le_of_ble_eq_true rfl, Nat.le_of_ble_eq_true rfl⟩) (fun r_11 u_12 H locs h_10 hw => ?_)
  rw [if_neg (by decide)] at h_10
  subst h_10
  refine lv_if_eq (tgt := 411) hx hb dX9_names_310 (by decide) (fun _ => ?_) (fun c_ => absurd (by decide) c_)
  refine lv_iload_n hx hb dX9_names_411 rfl (lv_at hl 3 rfl) ?_
  refine lv_bipush (v := 39) hx hb dX9_names_412 (by decide) ?_
  refine lv_bipush (v := 58) hx hb dX9_names_414 (by decide) ?_
  refine r_ki hw (r_runS (rest := []) hC hw (c_X9_isIn l _ _ 69 39 58) 3 gX9_names_X9_isIn rfl rfl rfl (by decide +kernel) ⟨Nat.le_of_ble_eq_true rfl, Nat.le_of_ble_eq_true rfl⟩ rfl hl.1 rfl (Nat.le_of_ble_eq_true rfl) dX9_names_416 ⟨Nat.le_of_ble_eq_true rfl, Nat.le_of_ble_eq_true rfl⟩) (fun r_14 u_15 H locs h_13 hw => ?_)
  rw [if_neg (by decide)] at h_13
  subst h_13
  refine lv_if_eq (tgt := 483) hx hb dX9_names_419 (by decide) (fun _ => ?_) (fun c_ => absurd (by decide) c_)
  refine lv_iload_n hx hb dX9_names_483 rfl (lv_at hl 3 rfl) ?_
  refine lv_bipush (v := 59) hx hb dX9_names_484 (by decide) ?_
  refine lv_bipush (v := 66) hx hb dX9_names_486 (by decide) ?_
  refine r_ki hw (r_runS (rest := []) hC hw (c_X9_isIn l _ _ 69 59 66) 3 gX9_names_X9_isIn rfl rfl rfl (by decide +kernel) ⟨Nat.le_of_ble_eq_true rfl, Nat.le_of_ble_eq_true rfl⟩ rfl hl.1 rfl (Nat.le_of_ble_eq_true rfl) dX9_names_488 ⟨Nat.le_of_ble_eq_true rfl, Nat.le_of_ble_eq_true rfl⟩) (fun r_17 u_18 H locs h_16 hw => ?_)
  rw [if_neg (by decide)] at h_16
  subst h_16
  refine lv_if_eq (tgt := 546) hx hb dX9_names_491 (by decide) (fun _ => ?_) (fun c_ => absurd (by decide) c_)
  refine lv_iload_n hx hb dX9_names_546 rfl (lv_at hl 3 rfl) ?_
  refine lv_bipush (v := 67) hx hb dX9_names_547 (by decide) ?_
  refine lv_icmp_ne (tgt := 562) hx hb dX9_names_549 (by decide) (fun _ => ?_) (fun c_ => absurd c_ (by decide))
  refine lv_iload_n hx hb dX9_names_562 rfl (lv_at hl 3 rfl) ?_
  refine lv_bipush (v := 68) hx hb dX9_names_563 (by decide) ?_
  refine lv_icmp_eq (tgt := 574) hx hb dX9_names_565 (by decide) (fun c_ => absurd c_ (by decide)) (fun _ => ?_)
  refine lv_iload_n hx hb dX9_names_568 rfl (lv_at hl 3 rfl) ?_
  refine lv_bipush (v := 69) hx hb dX9_names_569 (by decide) ?_
  refine lv_icmp_ne (tgt := 579) hx hb dX9_names_571 (by decide) (fun c_ => absurd (by decide) c_) (fun _ => ?_)
  refine lv_iconst (v := 5) hx hb dX9_names_574 (by decide) ?_
  refine lv_istore_n (lv' := [(2, .int 5), (4, .int 0), (3, .int 0), (0, .int 69), (1, .int wh)]) hx hb dX9_names_575 rfl hl (by decide) rfl (fun ls hl => ?_)
  refine lv_goto (tgt := 605) hx hb dX9_names_576 (by decide) ?_
  refine lv_iload_n hx hb dX9_names_605 rfl (lv_at hl 4 rfl) ?_
  refine lv_if_ne (tgt := 613) hx hb dX9_names_606 (by decide) (fun c_19 => ?_) (fun c_19 => ?_)
  · refine lv_iload_n hx hb dX9_names_613 rfl (lv_at hl 4 rfl) ?_
    refine lv_iconst (v := 1) hx hb dX9_names_614 (by decide) ?_
    refine lv_icmp_ne (tgt := 622) hx hb dX9_names_615 (by decide) (fun c_20 => ?_) (fun c_20 => ?_)
    · refine lv_iload hx hb dX9_names_622 (lv_at hl 1 rfl) ?_
      exact r_iret hC hr hlk hw () rfl ((if_neg c_19).trans (if_neg c_20)).symm (Nat.le_of_ble_eq_true rfl) (Nat.le_of_ble_eq_true rfl) dX9_names_624
    · refine lv_iload_n hx hb dX9_names_618 rfl (lv_at hl 2 rfl) ?_
      refine lv_goto (tgt := 624) hx hb dX9_names_619 (by decide) ?_
      exact r_iret hC hr hlk hw () rfl ((if_neg c_19).trans (if_pos c_20)).symm (Nat.le_of_ble_eq_true rfl) (Nat.le_of_ble_eq_true rfl) dX9_names_624
  · refine lv_iload_n hx hb dX9_names_609 rfl (lv_at hl 0 rfl) ?_
    refine lv_goto (tgt := 624) hx hb dX9_names_610 (by decide) ?_
    exact r_iret hC hr hlk hw () rfl (if_pos c_19).symm (Nat.le_of_ble_eq_true rfl) (Nat.le_of_ble_eq_true rfl) dX9_names_624

set_option maxHeartbeats 4000000 in
set_option maxRecDepth 100000 in
theorem c_X9_names_70 (l : Launch) {D : va_G} {q : Nat → ClassId} (w : wT) (sz : Nat) (wh : Int32) : Met l yX9_names wsX9_names (rmz 1 22) (va_Pc [.int 70, .int wh] (rPre D q w sz)) (va_Qi (fun (r : Int32) (u : Unit) => r = if wh = 0 then 1 else if wh = 1 then 5 else 0) (fun (u : Unit) tt => rPo D (rA w sz) w tt) (rA w sz)) 0 0 (rA w sz) := by
  refine r_start (cc := cX9_names) (maxL := 6) (ret := (some .int)) (by decide) rfl (Nat.le_of_ble_eq_true rfl) ?_
  intro p e s m below meth c ls hC hr hlk hnm hsz hw hl
  have hx := hC.1
  have hb := hC.2.1
  have hl : lv_has ls 6 [(0, .int 70), (1, .int wh)] := hl
  refine lv_iconst (v := 0) hx hb dX9_names_0 (by decide) ?_
  refine lv_istore_n (lv' := [(2, .int 0), (0, .int 70), (1, .int wh)]) hx hb dX9_names_1 rfl hl (by decide) rfl (fun ls hl => ?_)
  refine lv_iconst (v := 0) hx hb dX9_names_2 (by decide) ?_
  refine lv_istore_n (lv' := [(3, .int 0), (2, .int 0), (0, .int 70), (1, .int wh)]) hx hb dX9_names_3 rfl hl (by decide) rfl (fun ls hl => ?_)
  refine lv_iconst (v := 0) hx hb dX9_names_4 (by decide) ?_
  refine lv_istore (lv' := [(4, .int 0), (3, .int 0), (2, .int 0), (0, .int 70), (1, .int wh)]) hx hb dX9_names_5 hl (by decide) rfl (fun ls hl => ?_)
  refine lv_iload_n hx hb dX9_names_7 rfl (lv_at hl 3 rfl) ?_
  refine lv_iconst (v := 1) hx hb dX9_names_8 (by decide) ?_
  refine lv_icmp_eq (tgt := 24) hx hb dX9_names_9 (by decide) (fun c_ => absurd c_ (by decide)) (fun _ => ?_)
  refine lv_iload_n hx hb dX9_names_12 rfl (lv_at hl 3 rfl) ?_
  refine lv_bipush (v := 72) hx hb dX9_names_13 (by decide) ?_
  refine lv_icmp_eq (tgt := 24) hx hb dX9_names_15 (by decide) (fun c_ => absurd c_ (by decide)) (fun _ => ?_)
  refine lv_iload_n hx hb dX9_names_18 rfl (lv_at hl 3 rfl) ?_
  refine lv_bipush (v := 73) hx hb dX9_names_19 (by decide) ?_
  refine lv_icmp_ne (tgt := 29) hx hb dX9_names_21 (by decide) (fun _ => ?_) (fun c_ => absurd c_ (by decide))
  refine lv_iload_n hx hb dX9_names_29 rfl (lv_at hl 3 rfl) ?_
  refine lv_iconst (v := 2) hx hb dX9_names_30 (by decide) ?_
  refine lv_icmp_ne (tgt := 39) hx hb dX9_names_31 (by decide) (fun _ => ?_) (fun c_ => absurd c_ (by decide))
  refine lv_iload_n hx hb dX9_names_39 rfl (lv_at hl 3 rfl) ?_
  refine lv_iconst (v := 3) hx hb dX9_names_40 (by decide) ?_
  refine lv_icmp_ne (tgt := 51) hx hb dX9_names_41 (by decide) (fun _ => ?_) (fun c_ => absurd c_ (by decide))
  refine lv_iload_n hx hb dX9_names_51 rfl (lv_at hl 3 rfl) ?_
  refine lv_iconst (v := 4) hx hb dX9_names_52 (by decide) ?_
  refine lv_bipush (v := 8) hx hb dX9_names_53 (by decide) ?_
  refine r_ki hw (r_runS (rest := []) hC hw (c_X9_isIn l _ _ 70 4 8) 3 gX9_names_X9_isIn rfl rfl rfl (by decide +kernel) ⟨Nat.le_of_ble_eq_true rfl, Nat.le_of_ble_eq_true rfl⟩ rfl hl.1 rfl (Nat.le_of_ble_eq_true rfl) dX9_names_55 ⟨Nat.le_of_ble_eq_true rfl, Nat.le_of_ble_eq_true rfl⟩) (fun r_2 u_3 H locs h_1 hw => ?_)
  rw [if_neg (by decide)] at h_1
  subst h_1
  refine lv_if_ne (tgt := 67) hx hb dX9_names_58 (by decide) (fun c_ => absurd (by decide) c_) (fun _ => ?_)
  refine lv_iload_n hx hb dX9_names_61 rfl (lv_at hl 3 rfl) ?_
  refine lv_bipush (v := 25) hx hb dX9_names_62 (by decide) ?_
  refine lv_icmp_ne (tgt := 77) hx hb dX9_names_64 (by decide) (fun _ => ?_) (fun c_ => absurd c_ (by decide))
  refine lv_iload_n hx hb dX9_names_77 rfl (lv_at hl 3 rfl) ?_
  refine lv_bipush (v := 9) hx hb dX9_names_78 (by decide) ?_
  refine lv_bipush (v := 12) hx hb dX9_names_80 (by decide) ?_
  refine r_ki hw (r_runS (rest := []) hC hw (c_X9_isIn l _ _ 70 9 12) 3 gX9_names_X9_isIn rfl rfl rfl (by decide +kernel) ⟨Nat.le_of_ble_eq_true rfl, Nat.le_of_ble_eq_true rfl⟩ rfl hl.1 rfl (Nat.le_of_ble_eq_true rfl) dX9_names_82 ⟨Nat.le_of_ble_eq_true rfl, Nat.le_of_ble_eq_true rfl⟩) (fun r_5 u_6 H locs h_4 hw => ?_)
  rw [if_neg (by decide)] at h_4
  subst h_4
  refine lv_if_eq (tgt := 98) hx hb dX9_names_85 (by decide) (fun _ => ?_) (fun c_ => absurd (by decide) c_)
  refine lv_iload_n hx hb dX9_names_98 rfl (lv_at hl 3 rfl) ?_
  refine lv_bipush (v := 13) hx hb dX9_names_99 (by decide) ?_
  refine lv_bipush (v := 24) hx hb dX9_names_101 (by decide) ?_
  refine r_ki hw (r_runS (rest := []) hC hw (c_X9_isIn l _ _ 70 13 24) 3 gX9_names_X9_isIn rfl rfl rfl (by decide +kernel) ⟨Nat.le_of_ble_eq_true rfl, Nat.le_of_ble_eq_true rfl⟩ rfl hl.1 rfl (Nat.le_of_ble_eq_true rfl) dX9_names_103 ⟨Nat.le_of_ble_eq_true rfl, Nat.le_of_ble_eq_true rfl⟩) (fun r_8 u_9 H locs h_7 hw => ?_)
  rw [if_neg (by decide)] at h_7
  subst h_7
  refine lv_if_ne (tgt := 115) hx hb dX9_names_106 (by decide) (fun c_ => absurd (by decide) c_) (fun _ => ?_)
  refine lv_iload_n hx hb dX9_names_109 rfl (lv_at hl 3 rfl) ?_
  refine lv_bipush (v := 26) hx hb dX9_names_110 (by decide) ?_
  refine lv_icmp_ne (tgt := 270) hx hb dX9_names_112 (by decide) (fun _ => ?_) (fun c_ => absurd c_ (by decide))
  refine lv_iload_n hx hb dX9_names_270 rfl (lv_at hl 3 rfl) ?_
  refine lv_bipush (v := 27) hx hb dX9_names_271 (by decide) ?_
  refine lv_icmp_eq (tgt := 282) hx hb dX9_names_273 (by decide) (fun c_ => absurd c_ (by decide)) (fun _ => ?_)
  refine lv_iload_n hx hb dX9_names_276 rfl (lv_at hl 3 rfl) ?_
  refine lv_bipush (v := 29) hx hb dX9_names_277 (by decide) ?_
  refine lv_icmp_ne (tgt := 288) hx hb dX9_names_279 (by decide) (fun _ => ?_) (fun c_ => absurd c_ (by decide))
  refine lv_iload_n hx hb dX9_names_288 rfl (lv_at hl 3 rfl) ?_
  refine lv_bipush (v := 28) hx hb dX9_names_289 (by decide) ?_
  refine lv_icmp_ne (tgt := 302) hx hb dX9_names_291 (by decide) (fun _ => ?_) (fun c_ => absurd c_ (by decide))
  refine lv_iload_n hx hb dX9_names_302 rfl (lv_at hl 3 rfl) ?_
  refine lv_bipush (v := 31) hx hb dX9_names_303 (by decide) ?_
  refine lv_bipush (v := 38) hx hb dX9_names_305 (by decide) ?_
  refine r_ki hw (r_runS (rest := []) hC hw (c_X9_isIn l _ _ 70 31 38) 3 gX9_names_X9_isIn rfl rfl rfl (by decide +kernel) ⟨Nat.le_of_ble_eq_true rfl, Nat.le_of_ble_eq_true rfl⟩ rfl hl.1 rfl (Nat.le_of_ble_eq_true rfl) dX9_names_307 ⟨Nat.le_of_ble_eq_true rfl, Nat.le_of_ble_eq_true rfl⟩) (fun r_11 u_12 H locs h_10 hw => ?_)
  rw [if_neg (by decide)] at h_10
  subst h_10
  refine lv_if_eq (tgt := 411) hx hb dX9_names_310 (by decide) (fun _ => ?_) (fun c_ => absurd (by decide) c_)
  refine lv_iload_n hx hb dX9_names_411 rfl (lv_at hl 3 rfl) ?_
  refine lv_bipush (v := 39) hx hb dX9_names_412 (by decide) ?_
  refine lv_bipush (v := 58) hx hb dX9_names_414 (by decide) ?_
  refine r_ki hw (r_runS (rest := []) hC hw (c_X9_isIn l _ _ 70 39 58) 3 gX9_names_X9_isIn rfl rfl rfl (by decide +kernel) ⟨Nat.le_of_ble_eq_true rfl, Nat.le_of_ble_eq_true rfl⟩ rfl hl.1 rfl (Nat.le_of_ble_eq_true rfl) dX9_names_416 ⟨Nat.le_of_ble_eq_true rfl, Nat.le_of_ble_eq_true rfl⟩) (fun r_14 u_15 H locs h_13 hw => ?_)
  rw [if_neg (by decide)] at h_13
  subst h_13
  refine lv_if_eq (tgt := 483) hx hb dX9_names_419 (by decide) (fun _ => ?_) (fun c_ => absurd (by decide) c_)
  refine lv_iload_n hx hb dX9_names_483 rfl (lv_at hl 3 rfl) ?_
  refine lv_bipush (v := 59) hx hb dX9_names_484 (by decide) ?_
  refine lv_bipush (v := 66) hx hb dX9_names_486 (by decide) ?_
  refine r_ki hw (r_runS (rest := []) hC hw (c_X9_isIn l _ _ 70 59 66) 3 gX9_names_X9_isIn rfl rfl rfl (by decide +kernel) ⟨Nat.le_of_ble_eq_true rfl, Nat.le_of_ble_eq_true rfl⟩ rfl hl.1 rfl (Nat.le_of_ble_eq_true rfl) dX9_names_488 ⟨Nat.le_of_ble_eq_true rfl, Nat.le_of_ble_eq_true rfl⟩) (fun r_17 u_18 H locs h_16 hw => ?_)
  rw [if_neg (by decide)] at h_16
  subst h_16
  refine lv_if_eq (tgt := 546) hx hb dX9_names_491 (by decide) (fun _ => ?_) (fun c_ => absurd (by decide) c_)
  refine lv_iload_n hx hb dX9_names_546 rfl (lv_at hl 3 rfl) ?_
  refine lv_bipush (v := 67) hx hb dX9_names_547 (by decide) ?_
  refine lv_icmp_ne (tgt := 562) hx hb dX9_names_549 (by decide) (fun _ => ?_) (fun c_ => absurd c_ (by decide))
  refine lv_iload_n hx hb dX9_names_562 rfl (lv_at hl 3 rfl) ?_
  refine lv_bipush (v := 68) hx hb dX9_names_563 (by decide) ?_
  refine lv_icmp_eq (tgt := 574) hx hb dX9_names_565 (by decide) (fun c_ => absurd c_ (by decide)) (fun _ => ?_)
  refine lv_iload_n hx hb dX9_names_568 rfl (lv_at hl 3 rfl) ?_
  refine lv_bipush (v := 69) hx hb dX9_names_569 (by decide) ?_
  refine lv_icmp_ne (tgt := 579) hx hb dX9_names_571 (by decide) (fun _ => ?_) (fun c_ => absurd c_ (by decide))
  refine lv_iload_n hx hb dX9_names_579 rfl (lv_at hl 3 rfl) ?_
  refine lv_bipush (v := 70) hx hb dX9_names_580 (by decide) ?_
  refine lv_icmp_eq (tgt := 591) hx hb dX9_names_582 (by decide) (fun _ => ?_) (fun c_ => absurd (by decide) c_)
  refine lv_iload_n hx hb dX9_names_591 rfl (lv_at hl 3 rfl) ?_
  refine lv_bipush (v := 70) hx hb dX9_names_592 (by decide) ?_
  refine lv_icmp_ne (tgt := 601) hx hb dX9_names_594 (by decide) (fun c_ => absurd (by decide) c_) (fun _ => ?_)
  refine lv_iconst (v := 1) hx hb dX9_names_597 (by decide) ?_
  refine lv_goto (tgt := 602) hx hb dX9_names_598 (by decide) ?_
  refine lv_istore_n (lv' := [(2, .int 1), (4, .int 0), (3, .int 0), (0, .int 70), (1, .int wh)]) hx hb dX9_names_602 rfl hl (by decide) rfl (fun ls hl => ?_)
  refine lv_iconst (v := 5) hx hb dX9_names_603 (by decide) ?_
  refine lv_istore_n (lv' := [(3, .int 5), (2, .int 1), (4, .int 0), (0, .int 70), (1, .int wh)]) hx hb dX9_names_604 rfl hl (by decide) rfl (fun ls hl => ?_)
  refine lv_iload_n hx hb dX9_names_605 rfl (lv_at hl 4 rfl) ?_
  refine lv_if_ne (tgt := 613) hx hb dX9_names_606 (by decide) (fun c_19 => ?_) (fun c_19 => ?_)
  · refine lv_iload_n hx hb dX9_names_613 rfl (lv_at hl 4 rfl) ?_
    refine lv_iconst (v := 1) hx hb dX9_names_614 (by decide) ?_
    refine lv_icmp_ne (tgt := 622) hx hb dX9_names_615 (by decide) (fun c_20 => ?_) (fun c_20 => ?_)
    · refine lv_iload hx hb dX9_names_622 (lv_at hl 2 rfl) ?_
      exact r_iret hC hr hlk hw () rfl ((if_neg c_19).trans (if_neg c_20)).symm (Nat.le_of_ble_eq_true rfl) (Nat.le_of_ble_eq_true rfl) dX9_names_624
    · refine lv_iload_n hx hb dX9_names_618 rfl (lv_at hl 0 rfl) ?_
      refine lv_goto (tgt := 624) hx hb dX9_names_619 (by decide) ?_
      exact r_iret hC hr hlk hw () rfl ((if_neg c_19).trans (if_pos c_20)).symm (Nat.le_of_ble_eq_true rfl) (Nat.le_of_ble_eq_true rfl) dX9_names_624
  · refine lv_iload_n hx hb dX9_names_609 rfl (lv_at hl 1 rfl) ?_
    refine lv_goto (tgt := 624) hx hb dX9_names_610 (by decide) ?_
    exact r_iret hC hr hlk hw () rfl (if_pos c_19).symm (Nat.le_of_ble_eq_true rfl) (Nat.le_of_ble_eq_true rfl) dX9_names_624

set_option maxHeartbeats 4000000 in
set_option maxRecDepth 100000 in
theorem c_X9_names_71 (l : Launch) {D : va_G} {q : Nat → ClassId} (w : wT) (sz : Nat) (wh : Int32) : Met l yX9_names wsX9_names (rmz 1 22) (va_Pc [.int 71, .int wh] (rPre D q w sz)) (va_Qi (fun (r : Int32) (u : Unit) => r = if wh = 0 then 5 else if wh = 1 then 5 else 0) (fun (u : Unit) tt => rPo D (rA w sz) w tt) (rA w sz)) 0 0 (rA w sz) := by
  refine r_start (cc := cX9_names) (maxL := 6) (ret := (some .int)) (by decide) rfl (Nat.le_of_ble_eq_true rfl) ?_
  intro p e s m below meth c ls hC hr hlk hnm hsz hw hl
  have hx := hC.1
  have hb := hC.2.1
  have hl : lv_has ls 6 [(0, .int 71), (1, .int wh)] := hl
  refine lv_iconst (v := 0) hx hb dX9_names_0 (by decide) ?_
  refine lv_istore_n (lv' := [(2, .int 0), (0, .int 71), (1, .int wh)]) hx hb dX9_names_1 rfl hl (by decide) rfl (fun ls hl => ?_)
  refine lv_iconst (v := 0) hx hb dX9_names_2 (by decide) ?_
  refine lv_istore_n (lv' := [(3, .int 0), (2, .int 0), (0, .int 71), (1, .int wh)]) hx hb dX9_names_3 rfl hl (by decide) rfl (fun ls hl => ?_)
  refine lv_iconst (v := 0) hx hb dX9_names_4 (by decide) ?_
  refine lv_istore (lv' := [(4, .int 0), (3, .int 0), (2, .int 0), (0, .int 71), (1, .int wh)]) hx hb dX9_names_5 hl (by decide) rfl (fun ls hl => ?_)
  refine lv_iload_n hx hb dX9_names_7 rfl (lv_at hl 3 rfl) ?_
  refine lv_iconst (v := 1) hx hb dX9_names_8 (by decide) ?_
  refine lv_icmp_eq (tgt := 24) hx hb dX9_names_9 (by decide) (fun c_ => absurd c_ (by decide)) (fun _ => ?_)
  refine lv_iload_n hx hb dX9_names_12 rfl (lv_at hl 3 rfl) ?_
  refine lv_bipush (v := 72) hx hb dX9_names_13 (by decide) ?_
  refine lv_icmp_eq (tgt := 24) hx hb dX9_names_15 (by decide) (fun c_ => absurd c_ (by decide)) (fun _ => ?_)
  refine lv_iload_n hx hb dX9_names_18 rfl (lv_at hl 3 rfl) ?_
  refine lv_bipush (v := 73) hx hb dX9_names_19 (by decide) ?_
  refine lv_icmp_ne (tgt := 29) hx hb dX9_names_21 (by decide) (fun _ => ?_) (fun c_ => absurd c_ (by decide))
  refine lv_iload_n hx hb dX9_names_29 rfl (lv_at hl 3 rfl) ?_
  refine lv_iconst (v := 2) hx hb dX9_names_30 (by decide) ?_
  refine lv_icmp_ne (tgt := 39) hx hb dX9_names_31 (by decide) (fun _ => ?_) (fun c_ => absurd c_ (by decide))
  refine lv_iload_n hx hb dX9_names_39 rfl (lv_at hl 3 rfl) ?_
  refine lv_iconst (v := 3) hx hb dX9_names_40 (by decide) ?_
  refine lv_icmp_ne (tgt := 51) hx hb dX9_names_41 (by decide) (fun _ => ?_) (fun c_ => absurd c_ (by decide))
  refine lv_iload_n hx hb dX9_names_51 rfl (lv_at hl 3 rfl) ?_
  refine lv_iconst (v := 4) hx hb dX9_names_52 (by decide) ?_
  refine lv_bipush (v := 8) hx hb dX9_names_53 (by decide) ?_
  refine r_ki hw (r_runS (rest := []) hC hw (c_X9_isIn l _ _ 71 4 8) 3 gX9_names_X9_isIn rfl rfl rfl (by decide +kernel) ⟨Nat.le_of_ble_eq_true rfl, Nat.le_of_ble_eq_true rfl⟩ rfl hl.1 rfl (Nat.le_of_ble_eq_true rfl) dX9_names_55 ⟨Nat.le_of_ble_eq_true rfl, Nat.le_of_ble_eq_true rfl⟩) (fun r_2 u_3 H locs h_1 hw => ?_)
  rw [if_neg (by decide)] at h_1
  subst h_1
  refine lv_if_ne (tgt := 67) hx hb dX9_names_58 (by decide) (fun c_ => absurd (by decide) c_) (fun _ => ?_)
  refine lv_iload_n hx hb dX9_names_61 rfl (lv_at hl 3 rfl) ?_
  refine lv_bipush (v := 25) hx hb dX9_names_62 (by decide) ?_
  refine lv_icmp_ne (tgt := 77) hx hb dX9_names_64 (by decide) (fun _ => ?_) (fun c_ => absurd c_ (by decide))
  refine lv_iload_n hx hb dX9_names_77 rfl (lv_at hl 3 rfl) ?_
  refine lv_bipush (v := 9) hx hb dX9_names_78 (by decide) ?_
  refine lv_bipush (v := 12) hx hb dX9_names_80 (by decide) ?_
  refine r_ki hw (r_runS (rest := []) hC hw (c_X9_isIn l _ _ 71 9 12) 3 gX9_names_X9_isIn rfl rfl rfl (by decide +kernel) ⟨Nat.le_of_ble_eq_true rfl, Nat.le_of_ble_eq_true rfl⟩ rfl hl.1 rfl (Nat.le_of_ble_eq_true rfl) dX9_names_82 ⟨Nat.le_of_ble_eq_true rfl, Nat.le_of_ble_eq_true rfl⟩) (fun r_5 u_6 H locs h_4 hw => ?_)
  rw [if_neg (by decide)] at h_4
  subst h_4
  refine lv_if_eq (tgt := 98) hx hb dX9_names_85 (by decide) (fun _ => ?_) (fun c_ => absurd (by decide) c_)
  refine lv_iload_n hx hb dX9_names_98 rfl (lv_at hl 3 rfl) ?_
  refine lv_bipush (v := 13) hx hb dX9_names_99 (by decide) ?_
  refine lv_bipush (v := 24) hx hb dX9_names_101 (by decide) ?_
  refine r_ki hw (r_runS (rest := []) hC hw (c_X9_isIn l _ _ 71 13 24) 3 gX9_names_X9_isIn rfl rfl rfl (by decide +kernel) ⟨Nat.le_of_ble_eq_true rfl, Nat.le_of_ble_eq_true rfl⟩ rfl hl.1 rfl (Nat.le_of_ble_eq_true rfl) dX9_names_103 ⟨Nat.le_of_ble_eq_true rfl, Nat.le_of_ble_eq_true rfl⟩) (fun r_8 u_9 H locs h_7 hw => ?_)
  rw [if_neg (by decide)] at h_7
  subst h_7
  refine lv_if_ne (tgt := 115) hx hb dX9_names_106 (by decide) (fun c_ => absurd (by decide) c_) (fun _ => ?_)
  refine lv_iload_n hx hb dX9_names_109 rfl (lv_at hl 3 rfl) ?_
  refine lv_bipush (v := 26) hx hb dX9_names_110 (by decide) ?_
  refine lv_icmp_ne (tgt := 270) hx hb dX9_names_112 (by decide) (fun _ => ?_) (fun c_ => absurd c_ (by decide))
  refine lv_iload_n hx hb dX9_names_270 rfl (lv_at hl 3 rfl) ?_
  refine lv_bipush (v := 27) hx hb dX9_names_271 (by decide) ?_
  refine lv_icmp_eq (tgt := 282) hx hb dX9_names_273 (by decide) (fun c_ => absurd c_ (by decide)) (fun _ => ?_)
  refine lv_iload_n hx hb dX9_names_276 rfl (lv_at hl 3 rfl) ?_
  refine lv_bipush (v := 29) hx hb dX9_names_277 (by decide) ?_
  refine lv_icmp_ne (tgt := 288) hx hb dX9_names_279 (by decide) (fun _ => ?_) (fun c_ => absurd c_ (by decide))
  refine lv_iload_n hx hb dX9_names_288 rfl (lv_at hl 3 rfl) ?_
  refine lv_bipush (v := 28) hx hb dX9_names_289 (by decide) ?_
  refine lv_icmp_ne (tgt := 302) hx hb dX9_names_291 (by decide) (fun _ => ?_) (fun c_ => absurd c_ (by decide))
  refine lv_iload_n hx hb dX9_names_302 rfl (lv_at hl 3 rfl) ?_
  refine lv_bipush (v := 31) hx hb dX9_names_303 (by decide) ?_
  refine lv_bipush (v := 38) hx hb dX9_names_305 (by decide) ?_
  refine r_ki hw (r_runS (rest := []) hC hw (c_X9_isIn l _ _ 71 31 38) 3 gX9_names_X9_isIn rfl rfl rfl (by decide +kernel) ⟨Nat.le_of_ble_eq_true rfl, Nat.le_of_ble_eq_true rfl⟩ rfl hl.1 rfl (Nat.le_of_ble_eq_true rfl) dX9_names_307 ⟨Nat.le_of_ble_eq_true rfl, Nat.le_of_ble_eq_true rfl⟩) (fun r_11 u_12 H locs h_10 hw => ?_)
  rw [if_neg (by decide)] at h_10
  subst h_10
  refine lv_if_eq (tgt := 411) hx hb dX9_names_310 (by decide) (fun _ => ?_) (fun c_ => absurd (by decide) c_)
  refine lv_iload_n hx hb dX9_names_411 rfl (lv_at hl 3 rfl) ?_
  refine lv_bipush (v := 39) hx hb dX9_names_412 (by decide) ?_
  refine lv_bipush (v := 58) hx hb dX9_names_414 (by decide) ?_
  refine r_ki hw (r_runS (rest := []) hC hw (c_X9_isIn l _ _ 71 39 58) 3 gX9_names_X9_isIn rfl rfl rfl (by decide +kernel) ⟨Nat.le_of_ble_eq_true rfl, Nat.le_of_ble_eq_true rfl⟩ rfl hl.1 rfl (Nat.le_of_ble_eq_true rfl) dX9_names_416 ⟨Nat.le_of_ble_eq_true rfl, Nat.le_of_ble_eq_true rfl⟩) (fun r_14 u_15 H locs h_13 hw => ?_)
  rw [if_neg (by decide)] at h_13
  subst h_13
  refine lv_if_eq (tgt := 483) hx hb dX9_names_419 (by decide) (fun _ => ?_) (fun c_ => absurd (by decide) c_)
  refine lv_iload_n hx hb dX9_names_483 rfl (lv_at hl 3 rfl) ?_
  refine lv_bipush (v := 59) hx hb dX9_names_484 (by decide) ?_
  refine lv_bipush (v := 66) hx hb dX9_names_486 (by decide) ?_
  refine r_ki hw (r_runS (rest := []) hC hw (c_X9_isIn l _ _ 71 59 66) 3 gX9_names_X9_isIn rfl rfl rfl (by decide +kernel) ⟨Nat.le_of_ble_eq_true rfl, Nat.le_of_ble_eq_true rfl⟩ rfl hl.1 rfl (Nat.le_of_ble_eq_true rfl) dX9_names_488 ⟨Nat.le_of_ble_eq_true rfl, Nat.le_of_ble_eq_true rfl⟩) (fun r_17 u_18 H locs h_16 hw => ?_)
  rw [if_neg (by decide)] at h_16
  subst h_16
  refine lv_if_eq (tgt := 546) hx hb dX9_names_491 (by decide) (fun _ => ?_) (fun c_ => absurd (by decide) c_)
  refine lv_iload_n hx hb dX9_names_546 rfl (lv_at hl 3 rfl) ?_
  refine lv_bipush (v := 67) hx hb dX9_names_547 (by decide) ?_
  refine lv_icmp_ne (tgt := 562) hx hb dX9_names_549 (by decide) (fun _ => ?_) (fun c_ => absurd c_ (by decide))
  refine lv_iload_n hx hb dX9_names_562 rfl (lv_at hl 3 rfl) ?_
  refine lv_bipush (v := 68) hx hb dX9_names_563 (by decide) ?_
  refine lv_icmp_eq (tgt := 574) hx hb dX9_names_565 (by decide) (fun c_ => absurd c_ (by decide)) (fun _ => ?_)
  refine lv_iload_n hx hb dX9_names_568 rfl (lv_at hl 3 rfl) ?_
  refine lv_bipush (v := 69) hx hb dX9_names_569 (by decide) ?_
  refine lv_icmp_ne (tgt := 579) hx hb dX9_names_571 (by decide) (fun _ => ?_) (fun c_ => absurd c_ (by decide))
  refine lv_iload_n hx hb dX9_names_579 rfl (lv_at hl 3 rfl) ?_
  refine lv_bipush (v := 70) hx hb dX9_names_580 (by decide) ?_
  refine lv_icmp_eq (tgt := 591) hx hb dX9_names_582 (by decide) (fun c_ => absurd c_ (by decide)) (fun _ => ?_)
  refine lv_iload_n hx hb dX9_names_585 rfl (lv_at hl 3 rfl) ?_
  refine lv_bipush (v := 71) hx hb dX9_names_586 (by decide) ?_
  refine lv_icmp_ne (tgt := 605) hx hb dX9_names_588 (by decide) (fun c_ => absurd (by decide) c_) (fun _ => ?_)
  refine lv_iload_n hx hb dX9_names_591 rfl (lv_at hl 3 rfl) ?_
  refine lv_bipush (v := 70) hx hb dX9_names_592 (by decide) ?_
  refine lv_icmp_ne (tgt := 601) hx hb dX9_names_594 (by decide) (fun _ => ?_) (fun c_ => absurd c_ (by decide))
  refine lv_iconst (v := 5) hx hb dX9_names_601 (by decide) ?_
  refine lv_istore_n (lv' := [(2, .int 5), (4, .int 0), (3, .int 0), (0, .int 71), (1, .int wh)]) hx hb dX9_names_602 rfl hl (by decide) rfl (fun ls hl => ?_)
  refine lv_iconst (v := 5) hx hb dX9_names_603 (by decide) ?_
  refine lv_istore_n (lv' := [(3, .int 5), (2, .int 5), (4, .int 0), (0, .int 71), (1, .int wh)]) hx hb dX9_names_604 rfl hl (by decide) rfl (fun ls hl => ?_)
  refine lv_iload_n hx hb dX9_names_605 rfl (lv_at hl 4 rfl) ?_
  refine lv_if_ne (tgt := 613) hx hb dX9_names_606 (by decide) (fun c_19 => ?_) (fun c_19 => ?_)
  · refine lv_iload_n hx hb dX9_names_613 rfl (lv_at hl 4 rfl) ?_
    refine lv_iconst (v := 1) hx hb dX9_names_614 (by decide) ?_
    refine lv_icmp_ne (tgt := 622) hx hb dX9_names_615 (by decide) (fun c_20 => ?_) (fun c_20 => ?_)
    · refine lv_iload hx hb dX9_names_622 (lv_at hl 2 rfl) ?_
      exact r_iret hC hr hlk hw () rfl ((if_neg c_19).trans (if_neg c_20)).symm (Nat.le_of_ble_eq_true rfl) (Nat.le_of_ble_eq_true rfl) dX9_names_624
    · refine lv_iload_n hx hb dX9_names_618 rfl (lv_at hl 0 rfl) ?_
      refine lv_goto (tgt := 624) hx hb dX9_names_619 (by decide) ?_
      exact r_iret hC hr hlk hw () rfl ((if_neg c_19).trans (if_pos c_20)).symm (Nat.le_of_ble_eq_true rfl) (Nat.le_of_ble_eq_true rfl) dX9_names_624
  · refine lv_iload_n hx hb dX9_names_609 rfl (lv_at hl 1 rfl) ?_
    refine lv_goto (tgt := 624) hx hb dX9_names_610 (by decide) ?_
    exact r_iret hC hr hlk hw () rfl (if_pos c_19).symm (Nat.le_of_ble_eq_true rfl) (Nat.le_of_ble_eq_true rfl) dX9_names_624

set_option maxHeartbeats 4000000 in
set_option maxRecDepth 100000 in
theorem c_X9_names_72 (l : Launch) {D : va_G} {q : Nat → ClassId} (w : wT) (sz : Nat) (wh : Int32) : Met l yX9_names wsX9_names (rmz 1 22) (va_Pc [.int 72, .int wh] (rPre D q w sz)) (va_Qi (fun (r : Int32) (u : Unit) => r = if wh = 0 then 1 else if wh = 1 then 0 else 0) (fun (u : Unit) tt => rPo D (rA w sz) w tt) (rA w sz)) 0 0 (rA w sz) := by
  refine r_start (cc := cX9_names) (maxL := 6) (ret := (some .int)) (by decide) rfl (Nat.le_of_ble_eq_true rfl) ?_
  intro p e s m below meth c ls hC hr hlk hnm hsz hw hl
  have hx := hC.1
  have hb := hC.2.1
  have hl : lv_has ls 6 [(0, .int 72), (1, .int wh)] := hl
  refine lv_iconst (v := 0) hx hb dX9_names_0 (by decide) ?_
  refine lv_istore_n (lv' := [(2, .int 0), (0, .int 72), (1, .int wh)]) hx hb dX9_names_1 rfl hl (by decide) rfl (fun ls hl => ?_)
  refine lv_iconst (v := 0) hx hb dX9_names_2 (by decide) ?_
  refine lv_istore_n (lv' := [(3, .int 0), (2, .int 0), (0, .int 72), (1, .int wh)]) hx hb dX9_names_3 rfl hl (by decide) rfl (fun ls hl => ?_)
  refine lv_iconst (v := 0) hx hb dX9_names_4 (by decide) ?_
  refine lv_istore (lv' := [(4, .int 0), (3, .int 0), (2, .int 0), (0, .int 72), (1, .int wh)]) hx hb dX9_names_5 hl (by decide) rfl (fun ls hl => ?_)
  refine lv_iload_n hx hb dX9_names_7 rfl (lv_at hl 3 rfl) ?_
  refine lv_iconst (v := 1) hx hb dX9_names_8 (by decide) ?_
  refine lv_icmp_eq (tgt := 24) hx hb dX9_names_9 (by decide) (fun c_ => absurd c_ (by decide)) (fun _ => ?_)
  refine lv_iload_n hx hb dX9_names_12 rfl (lv_at hl 3 rfl) ?_
  refine lv_bipush (v := 72) hx hb dX9_names_13 (by decide) ?_
  refine lv_icmp_eq (tgt := 24) hx hb dX9_names_15 (by decide) (fun _ => ?_) (fun c_ => absurd (by decide) c_)
  refine lv_iconst (v := 1) hx hb dX9_names_24 (by decide) ?_
  refine lv_istore_n (lv' := [(2, .int 1), (4, .int 0), (3, .int 0), (0, .int 72), (1, .int wh)]) hx hb dX9_names_25 rfl hl (by decide) rfl (fun ls hl => ?_)
  refine lv_goto (tgt := 605) hx hb dX9_names_26 (by decide) ?_
  refine lv_iload_n hx hb dX9_names_605 rfl (lv_at hl 4 rfl) ?_
  refine lv_if_ne (tgt := 613) hx hb dX9_names_606 (by decide) (fun c_1 => ?_) (fun c_1 => ?_)
  · refine lv_iload_n hx hb dX9_names_613 rfl (lv_at hl 4 rfl) ?_
    refine lv_iconst (v := 1) hx hb dX9_names_614 (by decide) ?_
    refine lv_icmp_ne (tgt := 622) hx hb dX9_names_615 (by decide) (fun c_2 => ?_) (fun c_2 => ?_)
    · refine lv_iload hx hb dX9_names_622 (lv_at hl 1 rfl) ?_
      exact r_iret hC hr hlk hw () rfl ((if_neg c_1).trans (if_neg c_2)).symm (Nat.le_of_ble_eq_true rfl) (Nat.le_of_ble_eq_true rfl) dX9_names_624
    · refine lv_iload_n hx hb dX9_names_618 rfl (lv_at hl 2 rfl) ?_
      refine lv_goto (tgt := 624) hx hb dX9_names_619 (by decide) ?_
      exact r_iret hC hr hlk hw () rfl ((if_neg c_1).trans (if_pos c_2)).symm (Nat.le_of_ble_eq_true rfl) (Nat.le_of_ble_eq_true rfl) dX9_names_624
  · refine lv_iload_n hx hb dX9_names_609 rfl (lv_at hl 0 rfl) ?_
    refine lv_goto (tgt := 624) hx hb dX9_names_610 (by decide) ?_
    exact r_iret hC hr hlk hw () rfl (if_pos c_1).symm (Nat.le_of_ble_eq_true rfl) (Nat.le_of_ble_eq_true rfl) dX9_names_624

set_option maxHeartbeats 4000000 in
set_option maxRecDepth 100000 in
theorem c_X9_names_73 (l : Launch) {D : va_G} {q : Nat → ClassId} (w : wT) (sz : Nat) (wh : Int32) : Met l yX9_names wsX9_names (rmz 1 22) (va_Pc [.int 73, .int wh] (rPre D q w sz)) (va_Qi (fun (r : Int32) (u : Unit) => r = if wh = 0 then 1 else if wh = 1 then 0 else 0) (fun (u : Unit) tt => rPo D (rA w sz) w tt) (rA w sz)) 0 0 (rA w sz) := by
  refine r_start (cc := cX9_names) (maxL := 6) (ret := (some .int)) (by decide) rfl (Nat.le_of_ble_eq_true rfl) ?_
  intro p e s m below meth c ls hC hr hlk hnm hsz hw hl
  have hx := hC.1
  have hb := hC.2.1
  have hl : lv_has ls 6 [(0, .int 73), (1, .int wh)] := hl
  refine lv_iconst (v := 0) hx hb dX9_names_0 (by decide) ?_
  refine lv_istore_n (lv' := [(2, .int 0), (0, .int 73), (1, .int wh)]) hx hb dX9_names_1 rfl hl (by decide) rfl (fun ls hl => ?_)
  refine lv_iconst (v := 0) hx hb dX9_names_2 (by decide) ?_
  refine lv_istore_n (lv' := [(3, .int 0), (2, .int 0), (0, .int 73), (1, .int wh)]) hx hb dX9_names_3 rfl hl (by decide) rfl (fun ls hl => ?_)
  refine lv_iconst (v := 0) hx hb dX9_names_4 (by decide) ?_
  refine lv_istore (lv' := [(4, .int 0), (3, .int 0), (2, .int 0), (0, .int 73), (1, .int wh)]) hx hb dX9_names_5 hl (by decide) rfl (fun ls hl => ?_)
  refine lv_iload_n hx hb dX9_names_7 rfl (lv_at hl 3 rfl) ?_
  refine lv_iconst (v := 1) hx hb dX9_names_8 (by decide) ?_
  refine lv_icmp_eq (tgt := 24) hx hb dX9_names_9 (by decide) (fun c_ => absurd c_ (by decide)) (fun _ => ?_)
  refine lv_iload_n hx hb dX9_names_12 rfl (lv_at hl 3 rfl) ?_
  refine lv_bipush (v := 72) hx hb dX9_names_13 (by decide) ?_
  refine lv_icmp_eq (tgt := 24) hx hb dX9_names_15 (by decide) (fun c_ => absurd c_ (by decide)) (fun _ => ?_)
  refine lv_iload_n hx hb dX9_names_18 rfl (lv_at hl 3 rfl) ?_
  refine lv_bipush (v := 73) hx hb dX9_names_19 (by decide) ?_
  refine lv_icmp_ne (tgt := 29) hx hb dX9_names_21 (by decide) (fun c_ => absurd (by decide) c_) (fun _ => ?_)
  refine lv_iconst (v := 1) hx hb dX9_names_24 (by decide) ?_
  refine lv_istore_n (lv' := [(2, .int 1), (4, .int 0), (3, .int 0), (0, .int 73), (1, .int wh)]) hx hb dX9_names_25 rfl hl (by decide) rfl (fun ls hl => ?_)
  refine lv_goto (tgt := 605) hx hb dX9_names_26 (by decide) ?_
  refine lv_iload_n hx hb dX9_names_605 rfl (lv_at hl 4 rfl) ?_
  refine lv_if_ne (tgt := 613) hx hb dX9_names_606 (by decide) (fun c_1 => ?_) (fun c_1 => ?_)
  · refine lv_iload_n hx hb dX9_names_613 rfl (lv_at hl 4 rfl) ?_
    refine lv_iconst (v := 1) hx hb dX9_names_614 (by decide) ?_
    refine lv_icmp_ne (tgt := 622) hx hb dX9_names_615 (by decide) (fun c_2 => ?_) (fun c_2 => ?_)
    · refine lv_iload hx hb dX9_names_622 (lv_at hl 1 rfl) ?_
      exact r_iret hC hr hlk hw () rfl ((if_neg c_1).trans (if_neg c_2)).symm (Nat.le_of_ble_eq_true rfl) (Nat.le_of_ble_eq_true rfl) dX9_names_624
    · refine lv_iload_n hx hb dX9_names_618 rfl (lv_at hl 2 rfl) ?_
      refine lv_goto (tgt := 624) hx hb dX9_names_619 (by decide) ?_
      exact r_iret hC hr hlk hw () rfl ((if_neg c_1).trans (if_pos c_2)).symm (Nat.le_of_ble_eq_true rfl) (Nat.le_of_ble_eq_true rfl) dX9_names_624
  · refine lv_iload_n hx hb dX9_names_609 rfl (lv_at hl 0 rfl) ?_
    refine lv_goto (tgt := 624) hx hb dX9_names_610 (by decide) ?_
    exact r_iret hC hr hlk hw () rfl (if_pos c_1).symm (Nat.le_of_ble_eq_true rfl) (Nat.le_of_ble_eq_true rfl) dX9_names_624

theorem c_X9_names (l : Launch) {D : va_G} {q : Nat → ClassId} (w : wT) (sz : Nat) (k : Nat) (op : Int32) (hk : k < 74) (ho : op = nI k) (wh : Int32) : Met l yX9_names wsX9_names (rmz 1 22) (va_Pc [.int op, .int wh] (rPre D q w sz)) (va_Qi (fun (r : Int32) (u : Unit) => r = if wh = 0 then nI (dg k / 100) else if wh = 1 then nI (dg k / 10 % 10) else nI (dg k % 10)) (fun (u : Unit) tt => rPo D (rA w sz) w tt) (rA w sz)) 0 0 (rA w sz) := by
  subst ho
  match k, hk with
  | 0, _ => exact c_X9_names_0 l w sz wh
  | 1, _ => exact c_X9_names_1 l w sz wh
  | 2, _ => exact c_X9_names_2 l w sz wh
  | 3, _ => exact c_X9_names_3 l w sz wh
  | 4, _ => exact c_X9_names_4 l w sz wh
  | 5, _ => exact c_X9_names_5 l w sz wh
  | 6, _ => exact c_X9_names_6 l w sz wh
  | 7, _ => exact c_X9_names_7 l w sz wh
  | 8, _ => exact c_X9_names_8 l w sz wh
  | 9, _ => exact c_X9_names_9 l w sz wh
  | 10, _ => exact c_X9_names_10 l w sz wh
  | 11, _ => exact c_X9_names_11 l w sz wh
  | 12, _ => exact c_X9_names_12 l w sz wh
  | 13, _ => exact c_X9_names_13 l w sz wh
  | 14, _ => exact c_X9_names_14 l w sz wh
  | 15, _ => exact c_X9_names_15 l w sz wh
  | 16, _ => exact c_X9_names_16 l w sz wh
  | 17, _ => exact c_X9_names_17 l w sz wh
  | 18, _ => exact c_X9_names_18 l w sz wh
  | 19, _ => exact c_X9_names_19 l w sz wh
  | 20, _ => exact c_X9_names_20 l w sz wh
  | 21, _ => exact c_X9_names_21 l w sz wh
  | 22, _ => exact c_X9_names_22 l w sz wh
  | 23, _ => exact c_X9_names_23 l w sz wh
  | 24, _ => exact c_X9_names_24 l w sz wh
  | 25, _ => exact c_X9_names_25 l w sz wh
  | 26, _ => exact c_X9_names_26 l w sz wh
  | 27, _ => exact c_X9_names_27 l w sz wh
  | 28, _ => exact c_X9_names_28 l w sz wh
  | 29, _ => exact c_X9_names_29 l w sz wh
  | 30, _ => exact c_X9_names_30 l w sz wh
  | 31, _ => exact c_X9_names_31 l w sz wh
  | 32, _ => exact c_X9_names_32 l w sz wh
  | 33, _ => exact c_X9_names_33 l w sz wh
  | 34, _ => exact c_X9_names_34 l w sz wh
  | 35, _ => exact c_X9_names_35 l w sz wh
  | 36, _ => exact c_X9_names_36 l w sz wh
  | 37, _ => exact c_X9_names_37 l w sz wh
  | 38, _ => exact c_X9_names_38 l w sz wh
  | 39, _ => exact c_X9_names_39 l w sz wh
  | 40, _ => exact c_X9_names_40 l w sz wh
  | 41, _ => exact c_X9_names_41 l w sz wh
  | 42, _ => exact c_X9_names_42 l w sz wh
  | 43, _ => exact c_X9_names_43 l w sz wh
  | 44, _ => exact c_X9_names_44 l w sz wh
  | 45, _ => exact c_X9_names_45 l w sz wh
  | 46, _ => exact c_X9_names_46 l w sz wh
  | 47, _ => exact c_X9_names_47 l w sz wh
  | 48, _ => exact c_X9_names_48 l w sz wh
  | 49, _ => exact c_X9_names_49 l w sz wh
  | 50, _ => exact c_X9_names_50 l w sz wh
  | 51, _ => exact c_X9_names_51 l w sz wh
  | 52, _ => exact c_X9_names_52 l w sz wh
  | 53, _ => exact c_X9_names_53 l w sz wh
  | 54, _ => exact c_X9_names_54 l w sz wh
  | 55, _ => exact c_X9_names_55 l w sz wh
  | 56, _ => exact c_X9_names_56 l w sz wh
  | 57, _ => exact c_X9_names_57 l w sz wh
  | 58, _ => exact c_X9_names_58 l w sz wh
  | 59, _ => exact c_X9_names_59 l w sz wh
  | 60, _ => exact c_X9_names_60 l w sz wh
  | 61, _ => exact c_X9_names_61 l w sz wh
  | 62, _ => exact c_X9_names_62 l w sz wh
  | 63, _ => exact c_X9_names_63 l w sz wh
  | 64, _ => exact c_X9_names_64 l w sz wh
  | 65, _ => exact c_X9_names_65 l w sz wh
  | 66, _ => exact c_X9_names_66 l w sz wh
  | 67, _ => exact c_X9_names_67 l w sz wh
  | 68, _ => exact c_X9_names_68 l w sz wh
  | 69, _ => exact c_X9_names_69 l w sz wh
  | 70, _ => exact c_X9_names_70 l w sz wh
  | 71, _ => exact c_X9_names_71 l w sz wh
  | 72, _ => exact c_X9_names_72 l w sz wh
  | 73, _ => exact c_X9_names_73 l w sz wh
  | k + 74, hk => exact absurd hk (by omega)

