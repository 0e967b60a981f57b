/-- start: loops over the registers -/
def sl (κ : KS) : Nat → KS
  | 0 => κ
  | k + 1 => uA (uA (sl κ k) 2 (aN (nI k)) 0) 3 (aN (nI k)) 0
def sl2 (κ : KS) : Nat → KS
  | 0 => κ
  | k + 1 => uD (uF (uJ (sl2 κ k) 0 (aN (nI k)) 0) (aN (nI k)) FP.fconst0) 0 (aN (nI k)) FP.dconst0
theorem sl_S (κ : KS) (i : Nat) (j : Int32) (i2 : Nat) (hj : j = nI i) (h2 : i2 = i + 1) : uA (uA (sl κ i) 2 (aN j) 0) 3 (aN j) 0 = sl κ i2 := by
  subst hj; subst h2; rfl
theorem sl2_S (κ : KS) (i : Nat) (j : Int32) (i2 : Nat) (hj : j = nI i) (h2 : i2 = i + 1) : uD (uF (uJ (sl2 κ i) 0 (aN j) 0) (aN j) FP.fconst0) 0 (aN j) FP.dconst0 = sl2 κ i2 := by
  subst hj; subst h2; rfl
def stK (κ : KS) : KS := uI (uI (uI (uI (uI (uI (uI (uI (sl2 (sl κ 8) 4) 2 0) 4 0) 5 0) 6 0) 7 0) 8 0) 9 0) 10 (-1)
def startR (κ : KS) (t : Nat → Int32) : Int32 × (KS × (Nat → Int32)) := if sI κ 0 ≤ 0 then (0, (uI (stK κ) 3 2, va_up (va_up t 4 0) 5 0)) else (1, (uI (stK κ) 3 1, va_up (va_up t 4 0) 5 0))
theorem sl_I (κ : KS) : ∀ n, (sl κ n).1 = κ.1
  | 0 => rfl
  | n + 1 => sl_I κ n
theorem sl2_I (κ : KS) : ∀ n, (sl2 κ n).1 = κ.1
  | 0 => rfl
  | n + 1 => sl2_I κ n
theorem v8_0 : vp_in (0 : Int32) 8 := by unfold vp_in; decide
theorem v8_1 : vp_in (1 : Int32) 8 := by unfold vp_in; decide
theorem v8_2 : vp_in (2 : Int32) 8 := by unfold vp_in; decide
theorem v8_3 : vp_in (3 : Int32) 8 := by unfold vp_in; decide
theorem v8_4 : vp_in (4 : Int32) 8 := by unfold vp_in; decide
theorem v8_5 : vp_in (5 : Int32) 8 := by unfold vp_in; decide
theorem v8_6 : vp_in (6 : Int32) 8 := by unfold vp_in; decide
theorem v8_7 : vp_in (7 : Int32) 8 := by unfold vp_in; decide
theorem v4_0 : vp_in (0 : Int32) 4 := by unfold vp_in; decide
theorem v4_1 : vp_in (1 : Int32) 4 := by unfold vp_in; decide
theorem v4_2 : vp_in (2 : Int32) 4 := by unfold vp_in; decide
theorem v4_3 : vp_in (3 : Int32) 4 := by unfold vp_in; decide
set_option maxHeartbeats 4000000 in
set_option maxRecDepth 100000 in
theorem c_X9_start (l : Launch) {D : va_G} {q : Nat → ClassId} {ad : Nat → Nat} {κ : KS} {t : Nat → Int32} (sz : Nat)  : Met l yX9_start wsX9_start (rmz 0 0) (va_Pc [.ref (ad 0)] (rPre D q (wM q ad κ t) sz)) (va_Qi (fun (r : Int32) (u : KS × (Nat → Int32)) => (r, u) = startR κ t) (fun (u : KS × (Nat → Int32)) tt => rPo D (rA (wM q ad κ t) sz) (wM q ad u.1 u.2) tt) (rA (wM q ad κ t) sz)) 0 0 (rA (wM q ad κ t) sz) := by
  refine r_start (cc := cX9_start) (maxL := 2) (ret := (some .boolean)) (by decide) rfl (Nat.le_of_ble_eq_true rfl) ?_
  intro p e s m below meth c ls hC hr hlk hnm hsz hw hl
  have hx := hC.1
  have hb := hC.2.1
  have hl : lv_has ls 2 [(0, .ref (ad 0))] := hl
  refine lv_iconst (v := 0) hx hb dX9_start_0 (by decide) ?_
  refine lv_istore_n (lv' := [(1, .int 0), (0, .ref (ad 0))]) hx hb dX9_start_1 rfl hl (by decide) rfl (fun ls hl => ?_)
  obtain ⟨K0, eK0⟩ : ∃ z, z = sl κ 0 := ⟨_, rfl⟩
  replace hw : rX D q (rA (wM q ad κ t) sz) s.heap s (wM q ad K0 t) s.heap [] := by rw [eK0]; exact hw
  refine lv_iload_n hx hb dX9_start_2 rfl (lv_at hl 0 rfl) ?_
  refine lv_bipush (v := 8) hx hb dX9_start_3 (by decide) ?_
  refine lv_icmp_ge (tgt := 28) hx hb dX9_start_5 (by decide) (fun c_ => absurd c_ (by decide)) (fun _ => ?_)
  refine lv_aload_n hx hb dX9_start_8 rfl (lv_at hl 1 rfl) ?_
  refine r_get hC hw rk9 in_X9_start_9 0 (wMl 0 (by decide)) wM0 4 (by decide) lk_X9_start_16 (v := .ref (ad 3)) rfl dX9_start_9 ?_
  refine lv_iload_n hx hb dX9_start_12 rfl (lv_at hl 0 rfl) ?_
  refine lv_iconst (v := 0) hx hb dX9_start_13 (by decide) ?_
  refine r_iast hC hw 3 (wMl 3 (by decide)) wM3 v8_0 dX9_start_14 (fun H locs hw => ?_)
  replace hw := mS_words hw
  refine lv_aload_n hx hb dX9_start_15 rfl (lv_at hl 1 rfl) ?_
  refine r_get hC hw rk9 in_X9_start_9 0 (wMl 0 (by decide)) wM0 8 (by decide) lk_X9_start_31 (v := .ref (ad 7)) rfl dX9_start_16 ?_
  refine lv_iload_n hx hb dX9_start_19 rfl (lv_at hl 0 rfl) ?_
  refine lv_iconst (v := 0) hx hb dX9_start_20 (by decide) ?_
  refine r_iast hC hw 7 (wMl 7 (by decide)) wM7 v8_0 dX9_start_21 (fun H locs hw => ?_)
  replace hw := mS_refs hw
  refine lv_iinc (v := 1) (lv' := [(1, .int 1), (0, .ref (ad 0))]) hx hb dX9_start_22 hl (k := 0) rfl (by first | rfl | decide) (by decide) rfl (fun ls hl => ?_)
  refine lv_goto (tgt := 2) hx hb dX9_start_25 (by decide) ?_
  rw [eK0, sl_S κ 0 0 1 rfl rfl] at hw
  obtain ⟨K1, eK1⟩ : ∃ z, z = sl κ 1 := ⟨_, rfl⟩
  rw [← eK1] at hw
  refine lv_iload_n hx hb dX9_start_2 rfl (lv_at hl 0 rfl) ?_
  refine lv_bipush (v := 8) hx hb dX9_start_3 (by decide) ?_
  refine lv_icmp_ge (tgt := 28) hx hb dX9_start_5 (by decide) (fun c_ => absurd c_ (by decide)) (fun _ => ?_)
  refine lv_aload_n hx hb dX9_start_8 rfl (lv_at hl 1 rfl) ?_
  refine r_get hC hw rk9 in_X9_start_9 0 (wMl 0 (by decide)) wM0 4 (by decide) lk_X9_start_16 (v := .ref (ad 3)) rfl dX9_start_9 ?_
  refine lv_iload_n hx hb dX9_start_12 rfl (lv_at hl 0 rfl) ?_
  refine lv_iconst (v := 0) hx hb dX9_start_13 (by decide) ?_
  refine r_iast hC hw 3 (wMl 3 (by decide)) wM3 v8_1 dX9_start_14 (fun H locs hw => ?_)
  replace hw := mS_words hw
  refine lv_aload_n hx hb dX9_start_15 rfl (lv_at hl 1 rfl) ?_
  refine r_get hC hw rk9 in_X9_start_9 0 (wMl 0 (by decide)) wM0 8 (by decide) lk_X9_start_31 (v := .ref (ad 7)) rfl dX9_start_16 ?_
  refine lv_iload_n hx hb dX9_start_19 rfl (lv_at hl 0 rfl) ?_
  refine lv_iconst (v := 0) hx hb dX9_start_20 (by decide) ?_
  refine r_iast hC hw 7 (wMl 7 (by decide)) wM7 v8_1 dX9_start_21 (fun H locs hw => ?_)
  replace hw := mS_refs hw
  refine lv_iinc (v := 2) (lv' := [(1, .int 2), (0, .ref (ad 0))]) hx hb dX9_start_22 hl (k := 0) rfl (by first | rfl | decide) (by decide) rfl (fun ls hl => ?_)
  refine lv_goto (tgt := 2) hx hb dX9_start_25 (by decide) ?_
  rw [eK1, sl_S κ 1 1 2 rfl rfl] at hw
  obtain ⟨K2, eK2⟩ : ∃ z, z = sl κ 2 := ⟨_, rfl⟩
  rw [← eK2] at hw
  refine lv_iload_n hx hb dX9_start_2 rfl (lv_at hl 0 rfl) ?_
  refine lv_bipush (v := 8) hx hb dX9_start_3 (by decide) ?_
  refine lv_icmp_ge (tgt := 28) hx hb dX9_start_5 (by decide) (fun c_ => absurd c_ (by decide)) (fun _ => ?_)
  refine lv_aload_n hx hb dX9_start_8 rfl (lv_at hl 1 rfl) ?_
  refine r_get hC hw rk9 in_X9_start_9 0 (wMl 0 (by decide)) wM0 4 (by decide) lk_X9_start_16 (v := .ref (ad 3)) rfl dX9_start_9 ?_
  refine lv_iload_n hx hb dX9_start_12 rfl (lv_at hl 0 rfl) ?_
  refine lv_iconst (v := 0) hx hb dX9_start_13 (by decide) ?_
  refine r_iast hC hw 3 (wMl 3 (by decide)) wM3 v8_2 dX9_start_14 (fun H locs hw => ?_)
  replace hw := mS_words hw
  refine lv_aload_n hx hb dX9_start_15 rfl (lv_at hl 1 rfl) ?_
  refine r_get hC hw rk9 in_X9_start_9 0 (wMl 0 (by decide)) wM0 8 (by decide) lk_X9_start_31 (v := .ref (ad 7)) rfl dX9_start_16 ?_
  refine lv_iload_n hx hb dX9_start_19 rfl (lv_at hl 0 rfl) ?_
  refine lv_iconst (v := 0) hx hb dX9_start_20 (by decide) ?_
  refine r_iast hC hw 7 (wMl 7 (by decide)) wM7 v8_2 dX9_start_21 (fun H locs hw => ?_)
  replace hw := mS_refs hw
  refine lv_iinc (v := 3) (lv' := [(1, .int 3), (0, .ref (ad 0))]) hx hb dX9_start_22 hl (k := 0) rfl (by first | rfl | decide) (by decide) rfl (fun ls hl => ?_)
  refine lv_goto (tgt := 2) hx hb dX9_start_25 (by decide) ?_
  rw [eK2, sl_S κ 2 2 3 rfl rfl] at hw
  obtain ⟨K3, eK3⟩ : ∃ z, z = sl κ 3 := ⟨_, rfl⟩
  rw [← eK3] at hw
  refine lv_iload_n hx hb dX9_start_2 rfl (lv_at hl 0 rfl) ?_
  refine lv_bipush (v := 8) hx hb dX9_start_3 (by decide) ?_
  refine lv_icmp_ge (tgt := 28) hx hb dX9_start_5 (by decide) (fun c_ => absurd c_ (by decide)) (fun _ => ?_)
  refine lv_aload_n hx hb dX9_start_8 rfl (lv_at hl 1 rfl) ?_
  refine r_get hC hw rk9 in_X9_start_9 0 (wMl 0 (by decide)) wM0 4 (by decide) lk_X9_start_16 (v := .ref (ad 3)) rfl dX9_start_9 ?_
  refine lv_iload_n hx hb dX9_start_12 rfl (lv_at hl 0 rfl) ?_
  refine lv_iconst (v := 0) hx hb dX9_start_13 (by decide) ?_
  refine r_iast hC hw 3 (wMl 3 (by decide)) wM3 v8_3 dX9_start_14 (fun H locs hw => ?_)
  replace hw := mS_words hw
  refine lv_aload_n hx hb dX9_start_15 rfl (lv_at hl 1 rfl) ?_
  refine r_get hC hw rk9 in_X9_start_9 0 (wMl 0 (by decide)) wM0 8 (by decide) lk_X9_start_31 (v := .ref (ad 7)) rfl dX9_start_16 ?_
  refine lv_iload_n hx hb dX9_start_19 rfl (lv_at hl 0 rfl) ?_
  refine lv_iconst (v := 0) hx hb dX9_start_20 (by decide) ?_
  refine r_iast hC hw 7 (wMl 7 (by decide)) wM7 v8_3 dX9_start_21 (fun H locs hw => ?_)
  replace hw := mS_refs hw
  refine lv_iinc (v := 4) (lv' := [(1, .int 4), (0, .ref (ad 0))]) hx hb dX9_start_22 hl (k := 0) rfl (by first | rfl | decide) (by decide) rfl (fun ls hl => ?_)
  refine lv_goto (tgt := 2) hx hb dX9_start_25 (by decide) ?_
  rw [eK3, sl_S κ 3 3 4 rfl rfl] at hw
  obtain ⟨K4, eK4⟩ : ∃ z, z = sl κ 4 := ⟨_, rfl⟩
  rw [← eK4] at hw
  refine lv_iload_n hx hb dX9_start_2 rfl (lv_at hl 0 rfl) ?_
  refine lv_bipush (v := 8) hx hb dX9_start_3 (by decide) ?_
  refine lv_icmp_ge (tgt := 28) hx hb dX9_start_5 (by decide) (fun c_ => absurd c_ (by decide)) (fun _ => ?_)
  refine lv_aload_n hx hb dX9_start_8 rfl (lv_at hl 1 rfl) ?_
  refine r_get hC hw rk9 in_X9_start_9 0 (wMl 0 (by decide)) wM0 4 (by decide) lk_X9_start_16 (v := .ref (ad 3)) rfl dX9_start_9 ?_
  refine lv_iload_n hx hb dX9_start_12 rfl (lv_at hl 0 rfl) ?_
  refine lv_iconst (v := 0) hx hb dX9_start_13 (by decide) ?_
  refine r_iast hC hw 3 (wMl 3 (by decide)) wM3 v8_4 dX9_start_14 (fun H locs hw => ?_)
  replace hw := mS_words hw
  refine lv_aload_n hx hb dX9_start_15 rfl (lv_at hl 1 rfl) ?_
  refine r_get hC hw rk9 in_X9_start_9 0 (wMl 0 (by decide)) wM0 8 (by decide) lk_X9_start_31 (v := .ref (ad 7)) rfl dX9_start_16 ?_
  refine lv_iload_n hx hb dX9_start_19 rfl (lv_at hl 0 rfl) ?_
  refine lv_iconst (v := 0) hx hb dX9_start_20 (by decide) ?_
  refine r_iast hC hw 7 (wMl 7 (by decide)) wM7 v8_4 dX9_start_21 (fun H locs hw => ?_)
  replace hw := mS_refs hw
  refine lv_iinc (v := 5) (lv' := [(1, .int 5), (0, .ref (ad 0))]) hx hb dX9_start_22 hl (k := 0) rfl (by first | rfl | decide) (by decide) rfl (fun ls hl => ?_)
  refine lv_goto (tgt := 2) hx hb dX9_start_25 (by decide) ?_
  rw [eK4, sl_S κ 4 4 5 rfl rfl] at hw
  obtain ⟨K5, eK5⟩ : ∃ z, z = sl κ 5 := ⟨_, rfl⟩
  rw [← eK5] at hw
  refine lv_iload_n hx hb dX9_start_2 rfl (lv_at hl 0 rfl) ?_
  refine lv_bipush (v := 8) hx hb dX9_start_3 (by decide) ?_
  refine lv_icmp_ge (tgt := 28) hx hb dX9_start_5 (by decide) (fun c_ => absurd c_ (by decide)) (fun _ => ?_)
  refine lv_aload_n hx hb dX9_start_8 rfl (lv_at hl 1 rfl) ?_
  refine r_get hC hw rk9 in_X9_start_9 0 (wMl 0 (by decide)) wM0 4 (by decide) lk_X9_start_16 (v := .ref (ad 3)) rfl dX9_start_9 ?_
  refine lv_iload_n hx hb dX9_start_12 rfl (lv_at hl 0 rfl) ?_
  refine lv_iconst (v := 0) hx hb dX9_start_13 (by decide) ?_
  refine r_iast hC hw 3 (wMl 3 (by decide)) wM3 v8_5 dX9_start_14 (fun H locs hw => ?_)
  replace hw := mS_words hw
  refine lv_aload_n hx hb dX9_start_15 rfl (lv_at hl 1 rfl) ?_
  refine r_get hC hw rk9 in_X9_start_9 0 (wMl 0 (by decide)) wM0 8 (by decide) lk_X9_start_31 (v := .ref (ad 7)) rfl dX9_start_16 ?_
  refine lv_iload_n hx hb dX9_start_19 rfl (lv_at hl 0 rfl) ?_
  refine lv_iconst (v := 0) hx hb dX9_start_20 (by decide) ?_
  refine r_iast hC hw 7 (wMl 7 (by decide)) wM7 v8_5 dX9_start_21 (fun H locs hw => ?_)
  replace hw := mS_refs hw
  refine lv_iinc (v := 6) (lv' := [(1, .int 6), (0, .ref (ad 0))]) hx hb dX9_start_22 hl (k := 0) rfl (by first | rfl | decide) (by decide) rfl (fun ls hl => ?_)
  refine lv_goto (tgt := 2) hx hb dX9_start_25 (by decide) ?_
  rw [eK5, sl_S κ 5 5 6 rfl rfl] at hw
  obtain ⟨K6, eK6⟩ : ∃ z, z = sl κ 6 := ⟨_, rfl⟩
  rw [← eK6] at hw
  refine lv_iload_n hx hb dX9_start_2 rfl (lv_at hl 0 rfl) ?_
  refine lv_bipush (v := 8) hx hb dX9_start_3 (by decide) ?_
  refine lv_icmp_ge (tgt := 28) hx hb dX9_start_5 (by decide) (fun c_ => absurd c_ (by decide)) (fun _ => ?_)
  refine lv_aload_n hx hb dX9_start_8 rfl (lv_at hl 1 rfl) ?_
  refine r_get hC hw rk9 in_X9_start_9 0 (wMl 0 (by decide)) wM0 4 (by decide) lk_X9_start_16 (v := .ref (ad 3)) rfl dX9_start_9 ?_
  refine lv_iload_n hx hb dX9_start_12 rfl (lv_at hl 0 rfl) ?_
  refine lv_iconst (v := 0) hx hb dX9_start_13 (by decide) ?_
  refine r_iast hC hw 3 (wMl 3 (by decide)) wM3 v8_6 dX9_start_14 (fun H locs hw => ?_)
  replace hw := mS_words hw
  refine lv_aload_n hx hb dX9_start_15 rfl (lv_at hl 1 rfl) ?_
  refine r_get hC hw rk9 in_X9_start_9 0 (wMl 0 (by decide)) wM0 8 (by decide) lk_X9_start_31 (v := .ref (ad 7)) rfl dX9_start_16 ?_
  refine lv_iload_n hx hb dX9_start_19 rfl (lv_at hl 0 rfl) ?_
  refine lv_iconst (v := 0) hx hb dX9_start_20 (by decide) ?_
  refine r_iast hC hw 7 (wMl 7 (by decide)) wM7 v8_6 dX9_start_21 (fun H locs hw => ?_)
  replace hw := mS_refs hw
  refine lv_iinc (v := 7) (lv' := [(1, .int 7), (0, .ref (ad 0))]) hx hb dX9_start_22 hl (k := 0) rfl (by first | rfl | decide) (by decide) rfl (fun ls hl => ?_)
  refine lv_goto (tgt := 2) hx hb dX9_start_25 (by decide) ?_
  rw [eK6, sl_S κ 6 6 7 rfl rfl] at hw
  obtain ⟨K7, eK7⟩ : ∃ z, z = sl κ 7 := ⟨_, rfl⟩
  rw [← eK7] at hw
  refine lv_iload_n hx hb dX9_start_2 rfl (lv_at hl 0 rfl) ?_
  refine lv_bipush (v := 8) hx hb dX9_start_3 (by decide) ?_
  refine lv_icmp_ge (tgt := 28) hx hb dX9_start_5 (by decide) (fun c_ => absurd c_ (by decide)) (fun _ => ?_)
  refine lv_aload_n hx hb dX9_start_8 rfl (lv_at hl 1 rfl) ?_
  refine r_get hC hw rk9 in_X9_start_9 0 (wMl 0 (by decide)) wM0 4 (by decide) lk_X9_start_16 (v := .ref (ad 3)) rfl dX9_start_9 ?_
  refine lv_iload_n hx hb dX9_start_12 rfl (lv_at hl 0 rfl) ?_
  refine lv_iconst (v := 0) hx hb dX9_start_13 (by decide) ?_
  refine r_iast hC hw 3 (wMl 3 (by decide)) wM3 v8_7 dX9_start_14 (fun H locs hw => ?_)
  replace hw := mS_words hw
  refine lv_aload_n hx hb dX9_start_15 rfl (lv_at hl 1 rfl) ?_
  refine r_get hC hw rk9 in_X9_start_9 0 (wMl 0 (by decide)) wM0 8 (by decide) lk_X9_start_31 (v := .ref (ad 7)) rfl dX9_start_16 ?_
  refine lv_iload_n hx hb dX9_start_19 rfl (lv_at hl 0 rfl) ?_
  refine lv_iconst (v := 0) hx hb dX9_start_20 (by decide) ?_
  refine r_iast hC hw 7 (wMl 7 (by decide)) wM7 v8_7 dX9_start_21 (fun H locs hw => ?_)
  replace hw := mS_refs hw
  refine lv_iinc (v := 8) (lv' := [(1, .int 8), (0, .ref (ad 0))]) hx hb dX9_start_22 hl (k := 0) rfl (by first | rfl | decide) (by decide) rfl (fun ls hl => ?_)
  refine lv_goto (tgt := 2) hx hb dX9_start_25 (by decide) ?_
  rw [eK7, sl_S κ 7 7 8 rfl rfl] at hw
  obtain ⟨K8, eK8⟩ : ∃ z, z = sl κ 8 := ⟨_, rfl⟩
  rw [← eK8] at hw
  refine lv_iload_n hx hb dX9_start_2 rfl (lv_at hl 0 rfl) ?_
  refine lv_bipush (v := 8) hx hb dX9_start_3 (by decide) ?_
  refine lv_icmp_ge (tgt := 28) hx hb dX9_start_5 (by decide) (fun _ => ?_) (fun c_ => absurd (by decide) c_)
  refine lv_iconst (v := 0) hx hb dX9_start_28 (by decide) ?_
  refine lv_istore_n (lv' := [(1, .int 0), (0, .ref (ad 0))]) hx hb dX9_start_29 rfl hl (by decide) rfl (fun ls hl => ?_)
  obtain ⟨M0, eM0⟩ : ∃ z, z = sl2 (sl κ 8) 0 := ⟨_, rfl⟩
  replace hw : rX D q (rA (wM q ad κ t) sz) s.heap s (wM q ad M0 t) H locs := by rw [eM0]; rw [eK8] at hw; exact hw
  refine lv_iload_n hx hb dX9_start_30 rfl (lv_at hl 0 rfl) ?_
  refine lv_iconst (v := 4) hx hb dX9_start_31 (by decide) ?_
  refine lv_icmp_ge (tgt := 62) hx hb dX9_start_32 (by decide) (fun c_ => absurd c_ (by decide)) (fun _ => ?_)
  refine lv_aload_n hx hb dX9_start_35 rfl (lv_at hl 1 rfl) ?_
  refine r_get hC hw rk9 in_X9_start_9 0 (wMl 0 (by decide)) wM0 5 (by decide) lk_X9_start_19 (v := .ref (ad 4)) rfl dX9_start_36 ?_
  refine lv_iload_n hx hb dX9_start_39 rfl (lv_at hl 0 rfl) ?_
  refine lv_lconst (v := 0) hx hb dX9_start_40 (by decide) ?_
  refine r_last hC hw 4 (wMl 4 (by decide)) wM4 v4_0 dX9_start_41 (fun H locs hw => ?_)
  replace hw := mS_wides hw
  refine lv_aload_n hx hb dX9_start_42 rfl (lv_at hl 1 rfl) ?_
  refine r_get hC hw rk9 in_X9_start_9 0 (wMl 0 (by decide)) wM0 6 (by decide) lk_X9_start_23 (v := .ref (ad 5)) rfl dX9_start_43 ?_
  refine lv_iload_n hx hb dX9_start_46 rfl (lv_at hl 0 rfl) ?_
  refine lv_fconst0 hx hb dX9_start_47 ?_
  refine r_fast hC hw 5 (wMl 5 (by decide)) wM5 v4_0 dX9_start_48 (fun H locs hw => ?_)
  replace hw := mS_singles hw
  refine lv_aload_n hx hb dX9_start_49 rfl (lv_at hl 1 rfl) ?_
  refine r_get hC hw rk9 in_X9_start_9 0 (wMl 0 (by decide)) wM0 7 (by decide) lk_X9_start_27 (v := .ref (ad 6)) rfl dX9_start_50 ?_
  refine lv_iload_n hx hb dX9_start_53 rfl (lv_at hl 0 rfl) ?_
  refine lv_dconst0 hx hb dX9_start_54 ?_
  refine r_dast hC hw 6 (wMl 6 (by decide)) wM6 v4_0 dX9_start_55 (fun H locs hw => ?_)
  replace hw := mS_reals hw
  refine lv_iinc (v := 1) (lv' := [(1, .int 1), (0, .ref (ad 0))]) hx hb dX9_start_56 hl (k := 0) rfl (by first | rfl | decide) (by decide) rfl (fun ls hl => ?_)
  refine lv_goto (tgt := 30) hx hb dX9_start_59 (by decide) ?_
  rw [eM0, sl2_S (sl κ 8) 0 0 1 rfl rfl] at hw
  obtain ⟨M1, eM1⟩ : ∃ z, z = sl2 (sl κ 8) 1 := ⟨_, rfl⟩
  rw [← eM1] at hw
  refine lv_iload_n hx hb dX9_start_30 rfl (lv_at hl 0 rfl) ?_
  refine lv_iconst (v := 4) hx hb dX9_start_31 (by decide) ?_
  refine lv_icmp_ge (tgt := 62) hx hb dX9_start_32 (by decide) (fun c_ => absurd c_ (by decide)) (fun _ => ?_)
  refine lv_aload_n hx hb dX9_start_35 rfl (lv_at hl 1 rfl) ?_
  refine r_get hC hw rk9 in_X9_start_9 0 (wMl 0 (by decide)) wM0 5 (by decide) lk_X9_start_19 (v := .ref (ad 4)) rfl dX9_start_36 ?_
  refine lv_iload_n hx hb dX9_start_39 rfl (lv_at hl 0 rfl) ?_
  refine lv_lconst (v := 0) hx hb dX9_start_40 (by decide) ?_
  refine r_last hC hw 4 (wMl 4 (by decide)) wM4 v4_1 dX9_start_41 (fun H locs hw => ?_)
  replace hw := mS_wides hw
  refine lv_aload_n hx hb dX9_start_42 rfl (lv_at hl 1 rfl) ?_
  refine r_get hC hw rk9 in_X9_start_9 0 (wMl 0 (by decide)) wM0 6 (by decide) lk_X9_start_23 (v := .ref (ad 5)) rfl dX9_start_43 ?_
  refine lv_iload_n hx hb dX9_start_46 rfl (lv_at hl 0 rfl) ?_
  refine lv_fconst0 hx hb dX9_start_47 ?_
  refine r_fast hC hw 5 (wMl 5 (by decide)) wM5 v4_1 dX9_start_48 (fun H locs hw => ?_)
  replace hw := mS_singles hw
  refine lv_aload_n hx hb dX9_start_49 rfl (lv_at hl 1 rfl) ?_
  refine r_get hC hw rk9 in_X9_start_9 0 (wMl 0 (by decide)) wM0 7 (by decide) lk_X9_start_27 (v := .ref (ad 6)) rfl dX9_start_50 ?_
  refine lv_iload_n hx hb dX9_start_53 rfl (lv_at hl 0 rfl) ?_
  refine lv_dconst0 hx hb dX9_start_54 ?_
  refine r_dast hC hw 6 (wMl 6 (by decide)) wM6 v4_1 dX9_start_55 (fun H locs hw => ?_)
  replace hw := mS_reals hw
  refine lv_iinc (v := 2) (lv' := [(1, .int 2), (0, .ref (ad 0))]) hx hb dX9_start_56 hl (k := 0) rfl (by first | rfl | decide) (by decide) rfl (fun ls hl => ?_)
  refine lv_goto (tgt := 30) hx hb dX9_start_59 (by decide) ?_
  rw [eM1, sl2_S (sl κ 8) 1 1 2 rfl rfl] at hw
  obtain ⟨M2, eM2⟩ : ∃ z, z = sl2 (sl κ 8) 2 := ⟨_, rfl⟩
  rw [← eM2] at hw
  refine lv_iload_n hx hb dX9_start_30 rfl (lv_at hl 0 rfl) ?_
  refine lv_iconst (v := 4) hx hb dX9_start_31 (by decide) ?_
  refine lv_icmp_ge (tgt := 62) hx hb dX9_start_32 (by decide) (fun c_ => absurd c_ (by decide)) (fun _ => ?_)
  refine lv_aload_n hx hb dX9_start_35 rfl (lv_at hl 1 rfl) ?_
  refine r_get hC hw rk9 in_X9_start_9 0 (wMl 0 (by decide)) wM0 5 (by decide) lk_X9_start_19 (v := .ref (ad 4)) rfl dX9_start_36 ?_
  refine lv_iload_n hx hb dX9_start_39 rfl (lv_at hl 0 rfl) ?_
  refine lv_lconst (v := 0) hx hb dX9_start_40 (by decide) ?_
  refine r_last hC hw 4 (wMl 4 (by decide)) wM4 v4_2 dX9_start_41 (fun H locs hw => ?_)
  replace hw := mS_wides hw
  refine lv_aload_n hx hb dX9_start_42 rfl (lv_at hl 1 rfl) ?_
  refine r_get hC hw rk9 in_X9_start_9 0 (wMl 0 (by decide)) wM0 6 (by decide) lk_X9_start_23 (v := .ref (ad 5)) rfl dX9_start_43 ?_
  refine lv_iload_n hx hb dX9_start_46 rfl (lv_at hl 0 rfl) ?_
  refine lv_fconst0 hx hb dX9_start_47 ?_
  refine r_fast hC hw 5 (wMl 5 (by decide)) wM5 v4_2 dX9_start_48 (fun H locs hw => ?_)
  replace hw := mS_singles hw
  refine lv_aload_n hx hb dX9_start_49 rfl (lv_at hl 1 rfl) ?_
  refine r_get hC hw rk9 in_X9_start_9 0 (wMl 0 (by decide)) wM0 7 (by decide) lk_X9_start_27 (v := .ref (ad 6)) rfl dX9_start_50 ?_
  refine lv_iload_n hx hb dX9_start_53 rfl (lv_at hl 0 rfl) ?_
  refine lv_dconst0 hx hb dX9_start_54 ?_
  refine r_dast hC hw 6 (wMl 6 (by decide)) wM6 v4_2 dX9_start_55 (fun H locs hw => ?_)
  replace hw := mS_reals hw
  refine lv_iinc (v := 3) (lv' := [(1, .int 3), (0, .ref (ad 0))]) hx hb dX9_start_56 hl (k := 0) rfl (by first | rfl | decide) (by decide) rfl (fun ls hl => ?_)
  refine lv_goto (tgt := 30) hx hb dX9_start_59 (by decide) ?_
  rw [eM2, sl2_S (sl κ 8) 2 2 3 rfl rfl] at hw
  obtain ⟨M3, eM3⟩ : ∃ z, z = sl2 (sl κ 8) 3 := ⟨_, rfl⟩
  rw [← eM3] at hw
  refine lv_iload_n hx hb dX9_start_30 rfl (lv_at hl 0 rfl) ?_
  refine lv_iconst (v := 4) hx hb dX9_start_31 (by decide) ?_
  refine lv_icmp_ge (tgt := 62) hx hb dX9_start_32 (by decide) (fun c_ => absurd c_ (by decide)) (fun _ => ?_)
  refine lv_aload_n hx hb dX9_start_35 rfl (lv_at hl 1 rfl) ?_
  refine r_get hC hw rk9 in_X9_start_9 0 (wMl 0 (by decide)) wM0 5 (by decide) lk_X9_start_19 (v := .ref (ad 4)) rfl dX9_start_36 ?_
  refine lv_iload_n hx hb dX9_start_39 rfl (lv_at hl 0 rfl) ?_
  refine lv_lconst (v := 0) hx hb dX9_start_40 (by decide) ?_
  refine r_last hC hw 4 (wMl 4 (by decide)) wM4 v4_3 dX9_start_41 (fun H locs hw => ?_)
  replace hw := mS_wides hw
  refine lv_aload_n hx hb dX9_start_42 rfl (lv_at hl 1 rfl) ?_
  refine r_get hC hw rk9 in_X9_start_9 0 (wMl 0 (by decide)) wM0 6 (by decide) lk_X9_start_23 (v := .ref (ad 5)) rfl dX9_start_43 ?_
  refine lv_iload_n hx hb dX9_start_46 rfl (lv_at hl 0 rfl) ?_
  refine lv_fconst0 hx hb dX9_start_47 ?_
  refine r_fast hC hw 5 (wMl 5 (by decide)) wM5 v4_3 dX9_start_48 (fun H locs hw => ?_)
  replace hw := mS_singles hw
  refine lv_aload_n hx hb dX9_start_49 rfl (lv_at hl 1 rfl) ?_
  refine r_get hC hw rk9 in_X9_start_9 0 (wMl 0 (by decide)) wM0 7 (by decide) lk_X9_start_27 (v := .ref (ad 6)) rfl dX9_start_50 ?_
  refine lv_iload_n hx hb dX9_start_53 rfl (lv_at hl 0 rfl) ?_
  refine lv_dconst0 hx hb dX9_start_54 ?_
  refine r_dast hC hw 6 (wMl 6 (by decide)) wM6 v4_3 dX9_start_55 (fun H locs hw => ?_)
  replace hw := mS_reals hw
  refine lv_iinc (v := 4) (lv' := [(1, .int 4), (0, .ref (ad 0))]) hx hb dX9_start_56 hl (k := 0) rfl (by first | rfl | decide) (by decide) rfl (fun ls hl => ?_)
  refine lv_goto (tgt := 30) hx hb dX9_start_59 (by decide) ?_
  rw [eM3, sl2_S (sl κ 8) 3 3 4 rfl rfl] at hw
  obtain ⟨M4, eM4⟩ : ∃ z, z = sl2 (sl κ 8) 4 := ⟨_, rfl⟩
  rw [← eM4] at hw
  refine lv_iload_n hx hb dX9_start_30 rfl (lv_at hl 0 rfl) ?_
  refine lv_iconst (v := 4) hx hb dX9_start_31 (by decide) ?_
  refine lv_icmp_ge (tgt := 62) hx hb dX9_start_32 (by decide) (fun _ => ?_) (fun c_ => absurd (by decide) c_)
  have hI : M4.1 = κ.1 := by rw [eM4, sl2_I, sl_I]
  refine lv_aload_n hx hb dX9_start_62 rfl (lv_at hl 1 rfl) ?_
  refine lv_iconst (v := 0) hx hb dX9_start_63 (by decide) ?_
  refine r_put hC hw rk9 in_X9_start_9 0 (wMl 0 (by decide)) wM0 17 (by decide) lk_X9_start_89 rfl rfl rfl (Nat.le_of_ble_eq_true rfl) dX9_start_64 (fun H locs hw => ?_)
  replace hw := mP_made hw
  refine lv_aload_n hx hb dX9_start_67 rfl (lv_at hl 1 rfl) ?_
  refine lv_iconst (v := 0) hx hb dX9_start_68 (by decide) ?_
  refine r_put hC hw rk9 in_X9_start_9 0 (wMl 0 (by decide)) wM0 19 (by decide) lk_X9_start_92 rfl rfl rfl (Nat.le_of_ble_eq_true rfl) dX9_start_69 (fun H locs hw => ?_)
  replace hw := mP_place hw
  refine lv_aload_n hx hb dX9_start_72 rfl (lv_at hl 1 rfl) ?_
  refine lv_iconst (v := 0) hx hb dX9_start_73 (by decide) ?_
  refine r_put hC hw rk9 in_X9_start_9 0 (wMl 0 (by decide)) wM0 20 (by decide) lk_X9_start_95 rfl rfl rfl (Nat.le_of_ble_eq_true rfl) dX9_start_74 (fun H locs hw => ?_)
  replace hw := mP_done hw
  refine lv_aload_n hx hb dX9_start_77 rfl (lv_at hl 1 rfl) ?_
  refine lv_iconst (v := 0) hx hb dX9_start_78 (by decide) ?_
  refine r_put hC hw rk9 in_X9_start_9 0 (wMl 0 (by decide)) wM0 22 (by decide) lk_X9_start_98 rfl rfl rfl (Nat.le_of_ble_eq_true rfl) dX9_start_79 (fun H locs hw => ?_)
  replace hw := mP_calls hw
  refine lv_aload_n hx hb dX9_start_82 rfl (lv_at hl 1 rfl) ?_
  refine lv_iconst (v := 0) hx hb dX9_start_83 (by decide) ?_
  refine r_put hC hw rk9 in_X9_start_9 0 (wMl 0 (by decide)) wM0 24 (by decide) lk_X9_start_101 rfl rfl rfl (Nat.le_of_ble_eq_true rfl) dX9_start_84 (fun H locs hw => ?_)
  replace hw := mP_toldMany hw
  refine lv_aload_n hx hb dX9_start_87 rfl (lv_at hl 1 rfl) ?_
  refine lv_iconst (v := 0) hx hb dX9_start_88 (by decide) ?_
  refine r_put hC hw rk9 in_X9_start_9 0 (wMl 0 (by decide)) wM0 25 (by decide) lk_X9_start_104 rfl rfl rfl (Nat.le_of_ble_eq_true rfl) dX9_start_89 (fun H locs hw => ?_)
  replace hw := mP_failures hw
  refine lv_aload_n hx hb dX9_start_92 rfl (lv_at hl 1 rfl) ?_
  refine lv_iconst (v := 0) hx hb dX9_start_93 (by decide) ?_
  refine r_put hC hw rk9 in_X9_start_9 0 (wMl 0 (by decide)) wM0 26 (by decide) lk_X9_start_107 rfl rfl rfl (Nat.le_of_ble_eq_true rfl) dX9_start_94 (fun H locs hw => ?_)
  replace hw := mP_latest hw
  refine lv_aload_n hx hb dX9_start_97 rfl (lv_at hl 1 rfl) ?_
  refine lv_iconst (v := (-1)) hx hb dX9_start_98 (by decide) ?_
  refine r_put hC hw rk9 in_X9_start_9 0 (wMl 0 (by decide)) wM0 27 (by decide) lk_X9_start_64 rfl rfl rfl (Nat.le_of_ble_eq_true rfl) dX9_start_99 (fun H locs hw => ?_)
  replace hw := mP_latestPlace hw
  refine lv_aload_n hx hb dX9_start_102 rfl (lv_at hl 1 rfl) ?_
  refine lv_iconst (v := 0) hx hb dX9_start_103 (by decide) ?_
  refine r_put hC hw rk9 in_X9_start_9 0 (wMl 0 (by decide)) wM0 28 (by decide) lk_X9_start_110 rfl rfl rfl (Nat.le_of_ble_eq_true rfl) dX9_start_104 (fun H locs hw => ?_)
  replace hw := mP_handled hw
  refine lv_aload_n hx hb dX9_start_107 rfl (lv_at hl 1 rfl) ?_
  refine lv_iconst (v := 0) hx hb dX9_start_108 (by decide) ?_
  refine r_put hC hw rk9 in_X9_start_9 0 (wMl 0 (by decide)) wM0 29 (by decide) lk_X9_start_113 rfl rfl rfl (Nat.le_of_ble_eq_true rfl) dX9_start_109 (fun H locs hw => ?_)
  replace hw := mP_thrown hw
  refine lv_aload_n hx hb dX9_start_112 rfl (lv_at hl 1 rfl) ?_
  refine lv_aload_n hx hb dX9_start_113 rfl (lv_at hl 1 rfl) ?_
  refine r_get hC hw rk9 in_X9_start_9 0 (wMl 0 (by decide)) wM0 1 (by decide) lk_X9_start_80 (v := .int (sI M4 0)) rfl dX9_start_114 ?_
  refine r_topi (y := sI κ 0) (congrFun hI 0) ?_
  refine lv_if_le (tgt := 124) hx hb dX9_start_117 (by decide) (fun c_1 => ?_) (fun c_1 => ?_)
  · refine lv_iconst (v := 2) hx hb dX9_start_124 (by decide) ?_
    refine r_put hC hw rk9 in_X9_start_9 0 (wMl 0 (by decide)) wM0 18 (by decide) lk_X9_start_83 rfl rfl rfl (Nat.le_of_ble_eq_true rfl) dX9_start_125 (fun H locs hw => ?_)
    replace hw := mP_status hw
    refine lv_aload_n hx hb dX9_start_128 rfl (lv_at hl 1 rfl) ?_
    refine r_get hC hw rk9 in_X9_start_9 0 (wMl 0 (by decide)) wM0 1 (by decide) lk_X9_start_80 (v := .int (sI M4 0)) rfl dX9_start_129 ?_
    refine r_topi (y := sI κ 0) (congrFun hI 0) ?_
    refine lv_if_le (tgt := 139) hx hb dX9_start_132 (by decide) (fun _ => ?_) (fun c_ => absurd c_1 c_)
    refine lv_iconst (v := 0) hx hb dX9_start_139 (by decide) ?_
    exact r_zret hC hr (by decide) hlk hw ((uI (uI (uI (uI (uI (uI (uI (uI (uI M4 2 0) 4 0) 5 0) 6 0) 7 0) 8 0) 9 0) 10 (-1)) 3 2), (va_up (va_up t 4 0) 5 0)) rfl (by rw [eM4]; exact (if_pos c_1).symm) (Nat.le_of_ble_eq_true rfl) (Nat.le_of_ble_eq_true rfl) dX9_start_140
  · refine lv_iconst (v := 1) hx hb dX9_start_120 (by decide) ?_
    refine lv_goto (tgt := 125) hx hb dX9_start_121 (by decide) ?_
    refine r_put hC hw rk9 in_X9_start_9 0 (wMl 0 (by decide)) wM0 18 (by decide) lk_X9_start_83 rfl rfl rfl (Nat.le_of_ble_eq_true rfl) dX9_start_125 (fun H locs hw => ?_)
    replace hw := mP_status hw
    refine lv_aload_n hx hb dX9_start_128 rfl (lv_at hl 1 rfl) ?_
    refine r_get hC hw rk9 in_X9_start_9 0 (wMl 0 (by decide)) wM0 1 (by decide) lk_X9_start_80 (v := .int (sI M4 0)) rfl dX9_start_129 ?_
    refine r_topi (y := sI κ 0) (congrFun hI 0) ?_
    refine lv_if_le (tgt := 139) hx hb dX9_start_132 (by decide) (fun c_ => absurd c_ c_1) (fun _ => ?_)
    refine lv_iconst (v := 1) hx hb dX9_start_135 (by decide) ?_
    refine lv_goto (tgt := 140) hx hb dX9_start_136 (by decide) ?_
    exact r_zret hC hr (by decide) hlk hw ((uI (uI (uI (uI (uI (uI (uI (uI (uI M4 2 0) 4 0) 5 0) 6 0) 7 0) 8 0) 9 0) 10 (-1)) 3 1), (va_up (va_up t 4 0) 5 0)) rfl (by rw [eM4]; exact (if_neg c_1).symm) (Nat.le_of_ble_eq_true rfl) (Nat.le_of_ble_eq_true rfl) dX9_start_140

def stR (κ : KS) (x : Int32) : Int32 := if x = 0 then sI κ 0 else if x = 1 then sI κ 1 else if x = 2 then sI κ 4 else if x = 3 then sI κ 5 else if x = 4 then sI κ 6 else if x = 5 then sI κ 2 else if x = 6 then sI κ 7 else if x = 7 then sI κ 8 else if x = 8 then sI κ 9 else if x = 9 then sI κ 10 else if x = 10 then sI κ 3 else -1
theorem sw11 {x : Int32} (h : ¬ (x.toInt < 0 ∨ 10 < x.toInt)) : ∃ j : Nat, j < 11 ∧ x = nI j := by
  obtain ⟨j, hj, e⟩ := nI_of2 (x := x) (M := 10) (n := 10) (by decide) (fun q => h (Or.inl (by have := Int32.lt_iff_toInt_lt.mp q; simpa using this))) (Int32.le_iff_toInt_le.mpr (by have : ¬ 10 < x.toInt := fun q => h (Or.inr q); have e : (10 : Int32).toInt = 10 := (by decide); omega))
  exact ⟨j, by omega, e⟩
set_option maxHeartbeats 4000000 in
set_option maxRecDepth 100000 in
theorem c_X9_state (l : Launch) {D : va_G} {q : Nat → ClassId} {ad : Nat → Nat} {κ : KS} {t : Nat → Int32} (sz : Nat) (x0 : Int32) : Met l yX9_state wsX9_state (rmz 0 0) (va_Pc [.ref (ad 0), .int x0] (rPre D q (wM q ad κ t) sz)) (va_Qi (fun (r : Int32) (u : Unit) => r = stR κ x0) (fun (u : Unit) tt => rPo D (rA (wM q ad κ t) sz) (wM q ad κ t) tt) (rA (wM q ad κ t) sz)) 0 0 (rA (wM q ad κ t) sz) := by
  by_cases ho : x0.toInt < 0 ∨ 10 < x0.toInt
  · refine r_start (cc := cX9_state) (maxL := 2) (ret := (some .int)) (by decide) rfl (Nat.le_of_ble_eq_true rfl) ?_
    intro p e s m below meth c ls hC hr hlk hnm hsz hw hl
    have hx := hC.1
    have hb := hC.2.1
    have hl : lv_has ls 2 [(0, .ref (ad 0)), (1, .int x0)] := hl
    refine lv_iload_n hx hb dX9_state_0 rfl (lv_at hl 1 rfl) ?_
    refine lv_tableOut (tgt := 115) hx hb dX9_state_1 ho (by decide) ?_
    refine lv_iconst (v := (-1)) hx hb dX9_state_115 (by decide) ?_
    exact r_iret hC hr hlk hw () rfl (by unfold stR; rw [if_neg (fun h => by rw [h] at ho; exact absurd ho (by decide)), if_neg (fun h => by rw [h] at ho; exact absurd ho (by decide)), if_neg (fun h => by rw [h] at ho; exact absurd ho (by decide)), if_neg (fun h => by rw [h] at ho; exact absurd ho (by decide)), if_neg (fun h => by rw [h] at ho; exact absurd ho (by decide)), if_neg (fun h => by rw [h] at ho; exact absurd ho (by decide)), if_neg (fun h => by rw [h] at ho; exact absurd ho (by decide)), if_neg (fun h => by rw [h] at ho; exact absurd ho (by decide)), if_neg (fun h => by rw [h] at ho; exact absurd ho (by decide)), if_neg (fun h => by rw [h] at ho; exact absurd ho (by decide)), if_neg (fun h => by rw [h] at ho; exact absurd ho (by decide))]) (Nat.le_of_ble_eq_true rfl) (Nat.le_of_ble_eq_true rfl) dX9_state_116
  · obtain ⟨j, hj, rfl⟩ := sw11 ho
    match j, hj with
    | 0, _ =>
      refine r_start (cc := cX9_state) (maxL := 2) (ret := (some .int)) (by decide) rfl (Nat.le_of_ble_eq_true rfl) ?_
      intro p e s m below meth c ls hC hr hlk hnm hsz hw hl
      have hx := hC.1
      have hb := hC.2.1
      have hl : lv_has ls 2 [(0, .ref (ad 0)), (1, .int 0)] := hl
      refine lv_iload_n hx hb dX9_state_0 rfl (lv_at hl 1 rfl) ?_
      refine lv_tableIn (tgt := 60) hx hb dX9_state_1 (by decide) (by decide) (by rfl) (by decide) ?_
      refine lv_aload_n hx hb dX9_state_60 rfl (lv_at hl 0 rfl) ?_
      refine r_get hC hw rk9 in_X9_state_9 0 (wMl 0 (by decide)) wM0 1 (by decide) lk_X9_state_80 (v := .int (sI κ 0)) rfl dX9_state_61 ?_
      exact r_iret hC hr hlk hw () rfl rfl (Nat.le_of_ble_eq_true rfl) (Nat.le_of_ble_eq_true rfl) dX9_state_64
    | 1, _ =>
      refine r_start (cc := cX9_state) (maxL := 2) (ret := (some .int)) (by decide) rfl (Nat.le_of_ble_eq_true rfl) ?_
      intro p e s m below meth c ls hC hr hlk hnm hsz hw hl
      have hx := hC.1
      have hb := hC.2.1
      have hl : lv_has ls 2 [(0, .ref (ad 0)), (1, .int 1)] := hl
      refine lv_iload_n hx hb dX9_state_0 rfl (lv_at hl 1 rfl) ?_
      refine lv_tableIn (tgt := 65) hx hb dX9_state_1 (by decide) (by decide) (by rfl) (by decide) ?_
      refine lv_aload_n hx hb dX9_state_65 rfl (lv_at hl 0 rfl) ?_
      refine r_get hC hw rk9 in_X9_state_9 0 (wMl 0 (by decide)) wM0 3 (by decide) lk_X9_state_86 (v := .int (sI κ 1)) rfl dX9_state_66 ?_
      exact r_iret hC hr hlk hw () rfl rfl (Nat.le_of_ble_eq_true rfl) (Nat.le_of_ble_eq_true rfl) dX9_state_69
    | 2, _ =>
      refine r_start (cc := cX9_state) (maxL := 2) (ret := (some .int)) (by decide) rfl (Nat.le_of_ble_eq_true rfl) ?_
      intro p e s m below meth c ls hC hr hlk hnm hsz hw hl
      have hx := hC.1
      have hb := hC.2.1
      have hl : lv_has ls 2 [(0, .ref (ad 0)), (1, .int 2)] := hl
      refine lv_iload_n hx hb dX9_state_0 rfl (lv_at hl 1 rfl) ?_
      refine lv_tableIn (tgt := 70) hx hb dX9_state_1 (by decide) (by decide) (by rfl) (by decide) ?_
      refine lv_aload_n hx hb dX9_state_70 rfl (lv_at hl 0 rfl) ?_
      refine r_get hC hw rk9 in_X9_state_9 0 (wMl 0 (by decide)) wM0 19 (by decide) lk_X9_state_92 (v := .int (sI κ 4)) rfl dX9_state_71 ?_
      exact r_iret hC hr hlk hw () rfl rfl (Nat.le_of_ble_eq_true rfl) (Nat.le_of_ble_eq_true rfl) dX9_state_74
    | 3, _ =>
      refine r_start (cc := cX9_state) (maxL := 2) (ret := (some .int)) (by decide) rfl (Nat.le_of_ble_eq_true rfl) ?_
      intro p e s m below meth c ls hC hr hlk hnm hsz hw hl
      have hx := hC.1
      have hb := hC.2.1
      have hl : lv_has ls 2 [(0, .ref (ad 0)), (1, .int 3)] := hl
      refine lv_iload_n hx hb dX9_state_0 rfl (lv_at hl 1 rfl) ?_
      refine lv_tableIn (tgt := 75) hx hb dX9_state_1 (by decide) (by decide) (by rfl) (by decide) ?_
      refine lv_aload_n hx hb dX9_state_75 rfl (lv_at hl 0 rfl) ?_
      refine r_get hC hw rk9 in_X9_state_9 0 (wMl 0 (by decide)) wM0 20 (by decide) lk_X9_state_95 (v := .int (sI κ 5)) rfl dX9_state_76 ?_
      exact r_iret hC hr hlk hw () rfl rfl (Nat.le_of_ble_eq_true rfl) (Nat.le_of_ble_eq_true rfl) dX9_state_79
    | 4, _ =>
      refine r_start (cc := cX9_state) (maxL := 2) (ret := (some .int)) (by decide) rfl (Nat.le_of_ble_eq_true rfl) ?_
      intro p e s m below meth c ls hC hr hlk hnm hsz hw hl
      have hx := hC.1
      have hb := hC.2.1
      have hl : lv_has ls 2 [(0, .ref (ad 0)), (1, .int 4)] := hl
      refine lv_iload_n hx hb dX9_state_0 rfl (lv_at hl 1 rfl) ?_
      refine lv_tableIn (tgt := 80) hx hb dX9_state_1 (by decide) (by decide) (by rfl) (by decide) ?_
      refine lv_aload_n hx hb dX9_state_80 rfl (lv_at hl 0 rfl) ?_
      refine r_get hC hw rk9 in_X9_state_9 0 (wMl 0 (by decide)) wM0 22 (by decide) lk_X9_state_98 (v := .int (sI κ 6)) rfl dX9_state_81 ?_
      exact r_iret hC hr hlk hw () rfl rfl (Nat.le_of_ble_eq_true rfl) (Nat.le_of_ble_eq_true rfl) dX9_state_84
    | 5, _ =>
      refine r_start (cc := cX9_state) (maxL := 2) (ret := (some .int)) (by decide) rfl (Nat.le_of_ble_eq_true rfl) ?_
      intro p e s m below meth c ls hC hr hlk hnm hsz hw hl
      have hx := hC.1
      have hb := hC.2.1
      have hl : lv_has ls 2 [(0, .ref (ad 0)), (1, .int 5)] := hl
      refine lv_iload_n hx hb dX9_state_0 rfl (lv_at hl 1 rfl) ?_
      refine lv_tableIn (tgt := 85) hx hb dX9_state_1 (by decide) (by decide) (by rfl) (by decide) ?_
      refine lv_aload_n hx hb dX9_state_85 rfl (lv_at hl 0 rfl) ?_
      refine r_get hC hw rk9 in_X9_state_9 0 (wMl 0 (by decide)) wM0 17 (by decide) lk_X9_state_89 (v := .int (sI κ 2)) rfl dX9_state_86 ?_
      exact r_iret hC hr hlk hw () rfl rfl (Nat.le_of_ble_eq_true rfl) (Nat.le_of_ble_eq_true rfl) dX9_state_89
    | 6, _ =>
      refine r_start (cc := cX9_state) (maxL := 2) (ret := (some .int)) (by decide) rfl (Nat.le_of_ble_eq_true rfl) ?_
      intro p e s m below meth c ls hC hr hlk hnm hsz hw hl
      have hx := hC.1
      have hb := hC.2.1
      have hl : lv_has ls 2 [(0, .ref (ad 0)), (1, .int 6)] := hl
      refine lv_iload_n hx hb dX9_state_0 rfl (lv_at hl 1 rfl) ?_
      refine lv_tableIn (tgt := 90) hx hb dX9_state_1 (by decide) (by decide) (by rfl) (by decide) ?_
      refine lv_aload_n hx hb dX9_state_90 rfl (lv_at hl 0 rfl) ?_
      refine r_get hC hw rk9 in_X9_state_9 0 (wMl 0 (by decide)) wM0 24 (by decide) lk_X9_state_101 (v := .int (sI κ 7)) rfl dX9_state_91 ?_
      exact r_iret hC hr hlk hw () rfl rfl (Nat.le_of_ble_eq_true rfl) (Nat.le_of_ble_eq_true rfl) dX9_state_94
    | 7, _ =>
      refine r_start (cc := cX9_state) (maxL := 2) (ret := (some .int)) (by decide) rfl (Nat.le_of_ble_eq_true rfl) ?_
      intro p e s m below meth c ls hC hr hlk hnm hsz hw hl
      have hx := hC.1
      have hb := hC.2.1
      have hl : lv_has ls 2 [(0, .ref (ad 0)), (1, .int 7)] := hl
      refine lv_iload_n hx hb dX9_state_0 rfl (lv_at hl 1 rfl) ?_
      refine lv_tableIn (tgt := 95) hx hb dX9_state_1 (by decide) (by decide) (by rfl) (by decide) ?_
      refine lv_aload_n hx hb dX9_state_95 rfl (lv_at hl 0 rfl) ?_
      refine r_get hC hw rk9 in_X9_state_9 0 (wMl 0 (by decide)) wM0 25 (by decide) lk_X9_state_104 (v := .int (sI κ 8)) rfl dX9_state_96 ?_
      exact r_iret hC hr hlk hw () rfl rfl (Nat.le_of_ble_eq_true rfl) (Nat.le_of_ble_eq_true rfl) dX9_state_99
    | 8, _ =>
      refine r_start (cc := cX9_state) (maxL := 2) (ret := (some .int)) (by decide) rfl (Nat.le_of_ble_eq_true rfl) ?_
      intro p e s m below meth c ls hC hr hlk hnm hsz hw hl
      have hx := hC.1
      have hb := hC.2.1
      have hl : lv_has ls 2 [(0, .ref (ad 0)), (1, .int 8)] := hl
      refine lv_iload_n hx hb dX9_state_0 rfl (lv_at hl 1 rfl) ?_
      refine lv_tableIn (tgt := 100) hx hb dX9_state_1 (by decide) (by decide) (by rfl) (by decide) ?_
      refine lv_aload_n hx hb dX9_state_100 rfl (lv_at hl 0 rfl) ?_
      refine r_get hC hw rk9 in_X9_state_9 0 (wMl 0 (by decide)) wM0 26 (by decide) lk_X9_state_107 (v := .int (sI κ 9)) rfl dX9_state_101 ?_
      exact r_iret hC hr hlk hw () rfl rfl (Nat.le_of_ble_eq_true rfl) (Nat.le_of_ble_eq_true rfl) dX9_state_104
    | 9, _ =>
      refine r_start (cc := cX9_state) (maxL := 2) (ret := (some .int)) (by decide) rfl (Nat.le_of_ble_eq_true rfl) ?_
      intro p e s m below meth c ls hC hr hlk hnm hsz hw hl
      have hx := hC.1
      have hb := hC.2.1
      have hl : lv_has ls 2 [(0, .ref (ad 0)), (1, .int 9)] := hl
      refine lv_iload_n hx hb dX9_state_0 rfl (lv_at hl 1 rfl) ?_
      refine lv_tableIn (tgt := 105) hx hb dX9_state_1 (by decide) (by decide) (by rfl) (by decide) ?_
      refine lv_aload_n hx hb dX9_state_105 rfl (lv_at hl 0 rfl) ?_
      refine r_get hC hw rk9 in_X9_state_9 0 (wMl 0 (by decide)) wM0 27 (by decide) lk_X9_state_64 (v := .int (sI κ 10)) rfl dX9_state_106 ?_
      exact r_iret hC hr hlk hw () rfl rfl (Nat.le_of_ble_eq_true rfl) (Nat.le_of_ble_eq_true rfl) dX9_state_109
    | 10, _ =>
      refine r_start (cc := cX9_state) (maxL := 2) (ret := (some .int)) (by decide) rfl (Nat.le_of_ble_eq_true rfl) ?_
      intro p e s m below meth c ls hC hr hlk hnm hsz hw hl
      have hx := hC.1
      have hb := hC.2.1
      have hl : lv_has ls 2 [(0, .ref (ad 0)), (1, .int 10)] := hl
      refine lv_iload_n hx hb dX9_state_0 rfl (lv_at hl 1 rfl) ?_
      refine lv_tableIn (tgt := 110) hx hb dX9_state_1 (by decide) (by decide) (by rfl) (by decide) ?_
      refine lv_aload_n hx hb dX9_state_110 rfl (lv_at hl 0 rfl) ?_
      refine r_get hC hw rk9 in_X9_state_9 0 (wMl 0 (by decide)) wM0 18 (by decide) lk_X9_state_83 (v := .int (sI κ 3)) rfl dX9_state_111 ?_
      exact r_iret hC hr hlk hw () rfl rfl (Nat.le_of_ble_eq_true rfl) (Nat.le_of_ble_eq_true rfl) dX9_state_114
    | j + 11, hj => exact absurd hj (by omega)

