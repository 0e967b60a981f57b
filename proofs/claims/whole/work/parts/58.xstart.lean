theorem xP_sc {D : va_G} {q : Nat → ClassId} {A : Nat → Prop} {H0 : Heap} {s : State} {ad : Nat → Nat} {κ : KS} {τ : TAU} {H : Heap} {locs : List Loc} {v : Int32} (hv : aN v ≤ aN (sI κ 0)) (h : rX D q A H0 s (wU (wX q ad κ τ) 1 (.inr (1, [.ref (ad 6), .ref (ad 7), .int v, .int (sI κ 1)]))) H locs) : rX D q A H0 s (wX q ad (uI κ 0 v) τ) H locs := by
  refine h.as (fun i hi => ?_) (fun i hi => rfl) (fun i hi => ?_)
  · show lvX κ i
    have hi : lvX (uI κ 0 v) i := hi
    unfold lvX at hi ⊢
    have e0 : sI (uI κ 0 v) 0 = v := rfl
    have e1 : sI (uI κ 0 v) 1 = sI κ 1 := rfl
    have e2 : sI (uI κ 0 v) 2 = sI κ 2 := rfl
    rw [e0, e1, e2] at hi
    omega
  · show exX q ad (uI κ 0 v) τ i = va_up (exX q ad κ τ) 1 (.inr (1, [.ref (ad 6), .ref (ad 7), .int v, .int (sI κ 1)])) i
    by_cases hj : i < 15
    · match i, hj with
    | 0, _ => rfl
    | 1, _ => rfl
    | 2, _ => rfl
    | 3, _ => rfl
    | 4, _ => rfl
    | 5, _ => rfl
    | 6, _ => rfl
    | 7, _ => rfl
    | 8, _ => rfl
    | 9, _ => rfl
    | 10, _ => rfl
    | 11, _ => rfl
    | 12, _ => rfl
    | 13, _ => rfl
    | 14, _ => rfl
    | i + 15, hj => exact absurd hj (by omega)
    · rw [va_up_ne _ _ (by omega), exX_ge hj, exX_ge hj]; rfl
theorem xP_hc {D : va_G} {q : Nat → ClassId} {A : Nat → Prop} {H0 : Heap} {s : State} {ad : Nat → Nat} {κ : KS} {τ : TAU} {H : Heap} {locs : List Loc} {v : Int32} (hv : aN v ≤ aN (sI κ 1)) (h : rX D q A H0 s (wU (wX q ad κ τ) 1 (.inr (1, [.ref (ad 6), .ref (ad 7), .int (sI κ 0), .int v]))) H locs) : rX D q A H0 s (wX q ad (uI κ 1 v) τ) H locs := by
  refine h.as (fun i hi => ?_) (fun i hi => rfl) (fun i hi => ?_)
  · show lvX κ i
    have hi : lvX (uI κ 1 v) i := hi
    unfold lvX at hi ⊢
    have e0 : sI (uI κ 1 v) 0 = sI κ 0 := rfl
    have e1 : sI (uI κ 1 v) 1 = v := rfl
    have e2 : sI (uI κ 1 v) 2 = sI κ 2 := rfl
    rw [e0, e1, e2] at hi
    omega
  · show exX q ad (uI κ 1 v) τ i = va_up (exX q ad κ τ) 1 (.inr (1, [.ref (ad 6), .ref (ad 7), .int (sI κ 0), .int v])) i
    by_cases hj : i < 15
    · match i, hj with
    | 0, _ => rfl
    | 1, _ => rfl
    | 2, _ => rfl
    | 3, _ => rfl
    | 4, _ => rfl
    | 5, _ => rfl
    | 6, _ => rfl
    | 7, _ => rfl
    | 8, _ => rfl
    | 9, _ => rfl
    | 10, _ => rfl
    | 11, _ => rfl
    | 12, _ => rfl
    | 13, _ => rfl
    | 14, _ => rfl
    | i + 15, hj => exact absurd hj (by omega)
    · rw [va_up_ne _ _ (by omega), exX_ge hj, exX_ge hj]; rfl
theorem xP_made0 {D : va_G} {q : Nat → ClassId} {A : Nat → Prop} {H0 : Heap} {s : State} {ad : Nat → Nat} {κ : KS} {τ : TAU} {H : Heap} {locs : List Loc} (h : rX D q A H0 s (wU (wX q ad κ τ) 5 (.inr (7, [.ref (ad 2), .int 0]))) H locs) : rX D q A H0 s (wX q ad (uI κ 2 0) τ) H locs := by
  have z := xP_made (v := 0) (M := aN (sI κ 2)) rfl h
  refine z.as (fun i hi => ?_) (fun i hi => rfl) (fun i hi => rfl)
  show lvV (uI κ 2 0) (aN (sI κ 2)) i
  have hi : lvX (uI κ 2 0) i := hi
  unfold lvX at hi
  have e2 : aN (sI (uI κ 2 0) 2) = 0 := rfl
  rw [e2] at hi
  unfold lvV
  omega
theorem KS_ext {a b : KS} (h1 : ∀ i, sI a i = sI b i) (h2 : a.2 = b.2) : a = b := by
  have e : a.1 = b.1 := funext h1
  cases a; cases b
  cases e; cases h2
  rfl
set_option maxHeartbeats 4000000 in
set_option maxRecDepth 100000 in
theorem c_X1_forget (l : Launch) {D : va_G} {q : Nat → ClassId} {ad : Nat → Nat} {κ : KS} {τ : TAU} (sz : Nat)  : Met l yX1_forget wsX1_forget (rmz 0 0) (va_Pc [.ref (ad 1)] (rPre D q (wX q ad κ τ) sz)) (va_Qv (fun (u : KS × TAU) => u = (uI (uI κ 0 0) 1 0, τ)) (fun (u : KS × TAU) tt => rPo D (rA (wX q ad κ τ) sz) (wX q ad u.1 u.2) tt) (rA (wX q ad κ τ) sz)) 0 0 (rA (wX q ad κ τ) sz) := by
  refine r_start (cc := cX1_forget) (maxL := 1) (ret := none) (by decide) rfl (Nat.le_of_ble_eq_true rfl) ?_
  intro p e s m below meth c ls hC hr hlk hnm hsz hw hl
  have hx := hC.1
  have hb := hC.2.1
  have hl : lv_has ls 1 [(0, .ref (ad 1))] := hl
  refine lv_aload_n hx hb dX1_forget_0 rfl (lv_at hl 0 rfl) ?_
  refine lv_iconst (v := 0) hx hb dX1_forget_1 (by decide) ?_
  refine r_put hC hw rk1 in_X1_forget_1 1 (wXl 1 (by decide)) wXc1 2 (by decide) lk_X1_forget_23 rfl rfl rfl (Nat.le_of_ble_eq_true rfl) dX1_forget_2 (fun H locs hw => ?_)
  replace hw := xP_sc (v := 0) (Nat.zero_le _) hw
  refine lv_aload_n hx hb dX1_forget_5 rfl (lv_at hl 0 rfl) ?_
  refine lv_iconst (v := 0) hx hb dX1_forget_6 (by decide) ?_
  refine r_put hC hw rk1 in_X1_forget_1 1 (wXl 1 (by decide)) wXc1 3 (by decide) lk_X1_forget_27 rfl rfl rfl (Nat.le_of_ble_eq_true rfl) dX1_forget_7 (fun H locs hw => ?_)
  replace hw := xP_hc (v := 0) (Nat.zero_le _) hw
  exact r_vret hC hr hlk hw ((uI (uI κ 0 0) 1 0), τ) rfl rfl (Nat.le_of_ble_eq_true rfl) (Nat.le_of_ble_eq_true rfl) dX1_forget_10

set_option maxHeartbeats 4000000 in
set_option maxRecDepth 100000 in
theorem c_X8_clear (l : Launch) {D : va_G} {q : Nat → ClassId} {ad : Nat → Nat} {κ : KS} {τ : TAU} (sz : Nat)  : Met l yX8_clear wsX8_clear (rmz 1 20) (va_Pc [.ref (ad 0)] (rPre D q (wX q ad κ τ) sz)) (va_Qi (fun (r : Int32) (u : KS × TAU) => r = sI κ 0 ∧ u = (uI (uI (uI κ 0 0) 1 0) 3 0, τ)) (fun (u : KS × TAU) tt => rPo D (rA (wX q ad κ τ) sz) (wX q ad u.1 u.2) tt) (rA (wX q ad κ τ) sz)) 0 0 (rA (wX q ad κ τ) sz) := by
  refine r_start (cc := cX8_clear) (maxL := 2) (ret := (some .int)) (by decide) rfl (Nat.le_of_ble_eq_true rfl) ?_
  intro p e s m below meth c ls hC hr hlk hnm hsz hw hl
  have hx := hC.1
  have hb := hC.2.1
  have hl : lv_has ls 2 [(0, .ref (ad 0))] := hl
  refine lv_aload_n hx hb dX8_clear_0 rfl (lv_at hl 0 rfl) ?_
  refine r_get hC hw rk8 in_X8_clear_8 0 (wXl 0 (by decide)) wXc0 0 (by decide) lk_X8_clear_10 (v := .ref (ad 1)) rfl dX8_clear_1 ?_
  refine r_get hC hw rk1 in_X8_clear_1 1 (wXl 1 (by decide)) wXc1 2 (by decide) lk_X8_clear_36 (v := .int (sI κ 0)) rfl dX8_clear_4 ?_
  refine lv_istore_n (lv' := [(1, .int (sI κ 0)), (0, .ref (ad 0))]) hx hb dX8_clear_7 rfl hl (by decide) rfl (fun ls hl => ?_)
  refine lv_aload_n hx hb dX8_clear_8 rfl (lv_at hl 1 rfl) ?_
  refine r_get hC hw rk8 in_X8_clear_8 0 (wXl 0 (by decide)) wXc0 0 (by decide) lk_X8_clear_10 (v := .ref (ad 1)) rfl dX8_clear_9 ?_
  refine r_kv hw (r_runV (rest := []) hC hw 1 (c_X1_forget (ad := ad) l _) rk1 (wXl 1 (by decide)) wXc1 0 gX8_clear_X1_forget rfl rfl rfl (by decide +kernel) ⟨Nat.le_of_ble_eq_true rfl, Nat.le_of_ble_eq_true rfl⟩ rfl hl.1 rfl (Nat.le_of_ble_eq_true rfl) dX8_clear_12 ⟨Nat.le_of_ble_eq_true rfl, Nat.le_of_ble_eq_true rfl⟩) (fun u_3 H locs h_1 hw => ?_)
  subst h_1
  dsimp only at hw
  refine lv_aload_n hx hb dX8_clear_15 rfl (lv_at hl 1 rfl) ?_
  refine r_get hC hw rk8 in_X8_clear_8 0 (wXl 0 (by decide)) wXc0 2 (by decide) lk_X8_clear_28 (v := .ref (ad 3)) rfl dX8_clear_16 ?_
  refine r_kv hw (r_runV (rest := []) hC hw 3 (c_X4_giveUp (ad := ad) l _) rk4 (wXl 3 (by decide)) wXc3 0 gX8_clear_X4_giveUp rfl rfl rfl (by decide +kernel) ⟨Nat.le_of_ble_eq_true rfl, Nat.le_of_ble_eq_true rfl⟩ rfl hl.1 rfl (Nat.le_of_ble_eq_true rfl) dX8_clear_19 ⟨Nat.le_of_ble_eq_true rfl, Nat.le_of_ble_eq_true rfl⟩) (fun u_6 H locs h_4 hw => ?_)
  subst h_4
  dsimp only at hw
  refine lv_iload_n hx hb dX8_clear_22 rfl (lv_at hl 0 rfl) ?_
  exact r_iret hC hr hlk hw ((uI (uI (uI κ 0 0) 1 0) 3 0), τ) rfl ⟨rfl, rfl⟩ (Nat.le_of_ble_eq_true rfl) (Nat.le_of_ble_eq_true rfl) dX8_clear_23

set_option maxHeartbeats 4000000 in
set_option maxRecDepth 100000 in
theorem c_X3_reset (l : Launch) {D : va_G} {q : Nat → ClassId} {ad : Nat → Nat} {κ : KS} {τ : TAU} (sz : Nat)  : Met l yX3_reset wsX3_reset (rmz 1 23) (va_Pc [.ref (ad 2)] (rPre D q (wX q ad κ τ) sz)) (va_Qv (fun (u : KS × TAU) => u = (sl2 (sl κ 8) 4, τ)) (fun (u : KS × TAU) tt => rPo D (rA (wX q ad κ τ) sz) (wX q ad u.1 u.2) tt) (rA (wX q ad κ τ) sz)) 0 0 (rA (wX q ad κ τ) sz) := by
  refine r_start (cc := cX3_reset) (maxL := 2) (ret := none) (by decide) rfl (Nat.le_of_ble_eq_true rfl) ?_
  intro p e s m below meth c ls hC hr hlk hnm hsz hw hl
  have hx := hC.1
  have hb := hC.2.1
  have hl : lv_has ls 2 [(0, .ref (ad 2))] := hl
  refine lv_iconst (v := 0) hx hb dX3_reset_0 (by decide) ?_
  refine lv_istore_n (lv' := [(1, .int 0), (0, .ref (ad 2))]) hx hb dX3_reset_1 rfl hl (by decide) rfl (fun ls hl => ?_)
  replace hw : rX D q (rA (wX q ad κ τ) sz) s.heap s (wX q ad (sl κ 0) τ) s.heap [] := hw
  refine lv_iload_n hx hb dX3_reset_2 rfl (lv_at hl 0 rfl) ?_
  refine lv_bipush (v := 8) hx hb dX3_reset_3 (by decide) ?_
  refine lv_icmp_ge (tgt := 26) hx hb dX3_reset_5 (by decide) (fun c_ => absurd c_ (by decide)) (fun _ => ?_)
  refine lv_aload_n hx hb dX3_reset_8 rfl (lv_at hl 1 rfl) ?_
  refine lv_iload_n hx hb dX3_reset_9 rfl (lv_at hl 0 rfl) ?_
  refine lv_iconst (v := 0) hx hb dX3_reset_10 (by decide) ?_
  refine r_kv hw (r_runV (rest := []) hC hw 2 (c_X3_setWord l _ _ 2 8 0 0 v8_0 (wXl 2 (by decide)) wXc2 (wXl 8 (by decide)) wXc8) rk3 (wXl 2 (by decide)) wXc2 2 gX3_reset_X3_setWord rfl rfl rfl (by decide +kernel) ⟨Nat.le_of_ble_eq_true rfl, Nat.le_of_ble_eq_true rfl⟩ rfl hl.1 rfl (Nat.le_of_ble_eq_true rfl) dX3_reset_11 ⟨Nat.le_of_ble_eq_true rfl, Nat.le_of_ble_eq_true rfl⟩) (fun u_3 H locs h_1 hw => ?_)
  replace hw := xS_words hw
  refine lv_aload_n hx hb dX3_reset_14 rfl (lv_at hl 1 rfl) ?_
  refine lv_iload_n hx hb dX3_reset_15 rfl (lv_at hl 0 rfl) ?_
  refine lv_null hx hb dX3_reset_16 ?_
  refine r_kv hw (r_runV (rest := []) hC hw 2 (c_X3_setThingN l _ _ 2 12 0 v8_0 (wXl 2 (by decide)) wXc2 (wXl 12 (by decide)) wXc12) rk3 (wXl 2 (by decide)) wXc2 2 gX3_reset_X3_setThing rfl rfl rfl (by decide +kernel) ⟨Nat.le_of_ble_eq_true rfl, Nat.le_of_ble_eq_true rfl⟩ rfl hl.1 rfl (Nat.le_of_ble_eq_true rfl) dX3_reset_17 ⟨Nat.le_of_ble_eq_true rfl, Nat.le_of_ble_eq_true rfl⟩) (fun u_6 H locs h_4 hw => ?_)
  replace hw := xS_refs (v := 0) rfl hw
  refine lv_iinc (v := 1) (lv' := [(1, .int 1), (0, .ref (ad 2))]) hx hb dX3_reset_20 hl (k := 0) rfl (by first | rfl | decide) (by decide) rfl (fun ls hl => ?_)
  refine lv_goto (tgt := 2) hx hb dX3_reset_23 (by decide) ?_
  rw [sl_S κ 0 0 1 rfl rfl] at hw
  refine lv_iload_n hx hb dX3_reset_2 rfl (lv_at hl 0 rfl) ?_
  refine lv_bipush (v := 8) hx hb dX3_reset_3 (by decide) ?_
  refine lv_icmp_ge (tgt := 26) hx hb dX3_reset_5 (by decide) (fun c_ => absurd c_ (by decide)) (fun _ => ?_)
  refine lv_aload_n hx hb dX3_reset_8 rfl (lv_at hl 1 rfl) ?_
  refine lv_iload_n hx hb dX3_reset_9 rfl (lv_at hl 0 rfl) ?_
  refine lv_iconst (v := 0) hx hb dX3_reset_10 (by decide) ?_
  refine r_kv hw (r_runV (rest := []) hC hw 2 (c_X3_setWord l _ _ 2 8 1 0 v8_1 (wXl 2 (by decide)) wXc2 (wXl 8 (by decide)) wXc8) rk3 (wXl 2 (by decide)) wXc2 2 gX3_reset_X3_setWord rfl rfl rfl (by decide +kernel) ⟨Nat.le_of_ble_eq_true rfl, Nat.le_of_ble_eq_true rfl⟩ rfl hl.1 rfl (Nat.le_of_ble_eq_true rfl) dX3_reset_11 ⟨Nat.le_of_ble_eq_true rfl, Nat.le_of_ble_eq_true rfl⟩) (fun u_9 H locs h_7 hw => ?_)
  replace hw := xS_words hw
  refine lv_aload_n hx hb dX3_reset_14 rfl (lv_at hl 1 rfl) ?_
  refine lv_iload_n hx hb dX3_reset_15 rfl (lv_at hl 0 rfl) ?_
  refine lv_null hx hb dX3_reset_16 ?_
  refine r_kv hw (r_runV (rest := []) hC hw 2 (c_X3_setThingN l _ _ 2 12 1 v8_1 (wXl 2 (by decide)) wXc2 (wXl 12 (by decide)) wXc12) rk3 (wXl 2 (by decide)) wXc2 2 gX3_reset_X3_setThing rfl rfl rfl (by decide +kernel) ⟨Nat.le_of_ble_eq_true rfl, Nat.le_of_ble_eq_true rfl⟩ rfl hl.1 rfl (Nat.le_of_ble_eq_true rfl) dX3_reset_17 ⟨Nat.le_of_ble_eq_true rfl, Nat.le_of_ble_eq_true rfl⟩) (fun u_12 H locs h_10 hw => ?_)
  replace hw := xS_refs (v := 0) rfl hw
  refine lv_iinc (v := 2) (lv' := [(1, .int 2), (0, .ref (ad 2))]) hx hb dX3_reset_20 hl (k := 0) rfl (by first | rfl | decide) (by decide) rfl (fun ls hl => ?_)
  refine lv_goto (tgt := 2) hx hb dX3_reset_23 (by decide) ?_
  rw [sl_S κ 1 1 2 rfl rfl] at hw
  refine lv_iload_n hx hb dX3_reset_2 rfl (lv_at hl 0 rfl) ?_
  refine lv_bipush (v := 8) hx hb dX3_reset_3 (by decide) ?_
  refine lv_icmp_ge (tgt := 26) hx hb dX3_reset_5 (by decide) (fun c_ => absurd c_ (by decide)) (fun _ => ?_)
  refine lv_aload_n hx hb dX3_reset_8 rfl (lv_at hl 1 rfl) ?_
  refine lv_iload_n hx hb dX3_reset_9 rfl (lv_at hl 0 rfl) ?_
  refine lv_iconst (v := 0) hx hb dX3_reset_10 (by decide) ?_
  refine r_kv hw (r_runV (rest := []) hC hw 2 (c_X3_setWord l _ _ 2 8 2 0 v8_2 (wXl 2 (by decide)) wXc2 (wXl 8 (by decide)) wXc8) rk3 (wXl 2 (by decide)) wXc2 2 gX3_reset_X3_setWord rfl rfl rfl (by decide +kernel) ⟨Nat.le_of_ble_eq_true rfl, Nat.le_of_ble_eq_true rfl⟩ rfl hl.1 rfl (Nat.le_of_ble_eq_true rfl) dX3_reset_11 ⟨Nat.le_of_ble_eq_true rfl, Nat.le_of_ble_eq_true rfl⟩) (fun u_15 H locs h_13 hw => ?_)
  replace hw := xS_words hw
  refine lv_aload_n hx hb dX3_reset_14 rfl (lv_at hl 1 rfl) ?_
  refine lv_iload_n hx hb dX3_reset_15 rfl (lv_at hl 0 rfl) ?_
  refine lv_null hx hb dX3_reset_16 ?_
  refine r_kv hw (r_runV (rest := []) hC hw 2 (c_X3_setThingN l _ _ 2 12 2 v8_2 (wXl 2 (by decide)) wXc2 (wXl 12 (by decide)) wXc12) rk3 (wXl 2 (by decide)) wXc2 2 gX3_reset_X3_setThing rfl rfl rfl (by decide +kernel) ⟨Nat.le_of_ble_eq_true rfl, Nat.le_of_ble_eq_true rfl⟩ rfl hl.1 rfl (Nat.le_of_ble_eq_true rfl) dX3_reset_17 ⟨Nat.le_of_ble_eq_true rfl, Nat.le_of_ble_eq_true rfl⟩) (fun u_18 H locs h_16 hw => ?_)
  replace hw := xS_refs (v := 0) rfl hw
  refine lv_iinc (v := 3) (lv' := [(1, .int 3), (0, .ref (ad 2))]) hx hb dX3_reset_20 hl (k := 0) rfl (by first | rfl | decide) (by decide) rfl (fun ls hl => ?_)
  refine lv_goto (tgt := 2) hx hb dX3_reset_23 (by decide) ?_
  rw [sl_S κ 2 2 3 rfl rfl] at hw
  refine lv_iload_n hx hb dX3_reset_2 rfl (lv_at hl 0 rfl) ?_
  refine lv_bipush (v := 8) hx hb dX3_reset_3 (by decide) ?_
  refine lv_icmp_ge (tgt := 26) hx hb dX3_reset_5 (by decide) (fun c_ => absurd c_ (by decide)) (fun _ => ?_)
  refine lv_aload_n hx hb dX3_reset_8 rfl (lv_at hl 1 rfl) ?_
  refine lv_iload_n hx hb dX3_reset_9 rfl (lv_at hl 0 rfl) ?_
  refine lv_iconst (v := 0) hx hb dX3_reset_10 (by decide) ?_
  refine r_kv hw (r_runV (rest := []) hC hw 2 (c_X3_setWord l _ _ 2 8 3 0 v8_3 (wXl 2 (by decide)) wXc2 (wXl 8 (by decide)) wXc8) rk3 (wXl 2 (by decide)) wXc2 2 gX3_reset_X3_setWord rfl rfl rfl (by decide +kernel) ⟨Nat.le_of_ble_eq_true rfl, Nat.le_of_ble_eq_true rfl⟩ rfl hl.1 rfl (Nat.le_of_ble_eq_true rfl) dX3_reset_11 ⟨Nat.le_of_ble_eq_true rfl, Nat.le_of_ble_eq_true rfl⟩) (fun u_21 H locs h_19 hw => ?_)
  replace hw := xS_words hw
  refine lv_aload_n hx hb dX3_reset_14 rfl (lv_at hl 1 rfl) ?_
  refine lv_iload_n hx hb dX3_reset_15 rfl (lv_at hl 0 rfl) ?_
  refine lv_null hx hb dX3_reset_16 ?_
  refine r_kv hw (r_runV (rest := []) hC hw 2 (c_X3_setThingN l _ _ 2 12 3 v8_3 (wXl 2 (by decide)) wXc2 (wXl 12 (by decide)) wXc12) rk3 (wXl 2 (by decide)) wXc2 2 gX3_reset_X3_setThing rfl rfl rfl (by decide +kernel) ⟨Nat.le_of_ble_eq_true rfl, Nat.le_of_ble_eq_true rfl⟩ rfl hl.1 rfl (Nat.le_of_ble_eq_true rfl) dX3_reset_17 ⟨Nat.le_of_ble_eq_true rfl, Nat.le_of_ble_eq_true rfl⟩) (fun u_24 H locs h_22 hw => ?_)
  replace hw := xS_refs (v := 0) rfl hw
  refine lv_iinc (v := 4) (lv' := [(1, .int 4), (0, .ref (ad 2))]) hx hb dX3_reset_20 hl (k := 0) rfl (by first | rfl | decide) (by decide) rfl (fun ls hl => ?_)
  refine lv_goto (tgt := 2) hx hb dX3_reset_23 (by decide) ?_
  rw [sl_S κ 3 3 4 rfl rfl] at hw
  refine lv_iload_n hx hb dX3_reset_2 rfl (lv_at hl 0 rfl) ?_
  refine lv_bipush (v := 8) hx hb dX3_reset_3 (by decide) ?_
  refine lv_icmp_ge (tgt := 26) hx hb dX3_reset_5 (by decide) (fun c_ => absurd c_ (by decide)) (fun _ => ?_)
  refine lv_aload_n hx hb dX3_reset_8 rfl (lv_at hl 1 rfl) ?_
  refine lv_iload_n hx hb dX3_reset_9 rfl (lv_at hl 0 rfl) ?_
  refine lv_iconst (v := 0) hx hb dX3_reset_10 (by decide) ?_
  refine r_kv hw (r_runV (rest := []) hC hw 2 (c_X3_setWord l _ _ 2 8 4 0 v8_4 (wXl 2 (by decide)) wXc2 (wXl 8 (by decide)) wXc8) rk3 (wXl 2 (by decide)) wXc2 2 gX3_reset_X3_setWord rfl rfl rfl (by decide +kernel) ⟨Nat.le_of_ble_eq_true rfl, Nat.le_of_ble_eq_true rfl⟩ rfl hl.1 rfl (Nat.le_of_ble_eq_true rfl) dX3_reset_11 ⟨Nat.le_of_ble_eq_true rfl, Nat.le_of_ble_eq_true rfl⟩) (fun u_27 H locs h_25 hw => ?_)
  replace hw := xS_words hw
  refine lv_aload_n hx hb dX3_reset_14 rfl (lv_at hl 1 rfl) ?_
  refine lv_iload_n hx hb dX3_reset_15 rfl (lv_at hl 0 rfl) ?_
  refine lv_null hx hb dX3_reset_16 ?_
  refine r_kv hw (r_runV (rest := []) hC hw 2 (c_X3_setThingN l _ _ 2 12 4 v8_4 (wXl 2 (by decide)) wXc2 (wXl 12 (by decide)) wXc12) rk3 (wXl 2 (by decide)) wXc2 2 gX3_reset_X3_setThing rfl rfl rfl (by decide +kernel) ⟨Nat.le_of_ble_eq_true rfl, Nat.le_of_ble_eq_true rfl⟩ rfl hl.1 rfl (Nat.le_of_ble_eq_true rfl) dX3_reset_17 ⟨Nat.le_of_ble_eq_true rfl, Nat.le_of_ble_eq_true rfl⟩) (fun u_30 H locs h_28 hw => ?_)
  replace hw := xS_refs (v := 0) rfl hw
  refine lv_iinc (v := 5) (lv' := [(1, .int 5), (0, .ref (ad 2))]) hx hb dX3_reset_20 hl (k := 0) rfl (by first | rfl | decide) (by decide) rfl (fun ls hl => ?_)
  refine lv_goto (tgt := 2) hx hb dX3_reset_23 (by decide) ?_
  rw [sl_S κ 4 4 5 rfl rfl] at hw
  refine lv_iload_n hx hb dX3_reset_2 rfl (lv_at hl 0 rfl) ?_
  refine lv_bipush (v := 8) hx hb dX3_reset_3 (by decide) ?_
  refine lv_icmp_ge (tgt := 26) hx hb dX3_reset_5 (by decide) (fun c_ => absurd c_ (by decide)) (fun _ => ?_)
  refine lv_aload_n hx hb dX3_reset_8 rfl (lv_at hl 1 rfl) ?_
  refine lv_iload_n hx hb dX3_reset_9 rfl (lv_at hl 0 rfl) ?_
  refine lv_iconst (v := 0) hx hb dX3_reset_10 (by decide) ?_
  refine r_kv hw (r_runV (rest := []) hC hw 2 (c_X3_setWord l _ _ 2 8 5 0 v8_5 (wXl 2 (by decide)) wXc2 (wXl 8 (by decide)) wXc8) rk3 (wXl 2 (by decide)) wXc2 2 gX3_reset_X3_setWord rfl rfl rfl (by decide +kernel) ⟨Nat.le_of_ble_eq_true rfl, Nat.le_of_ble_eq_true rfl⟩ rfl hl.1 rfl (Nat.le_of_ble_eq_true rfl) dX3_reset_11 ⟨Nat.le_of_ble_eq_true rfl, Nat.le_of_ble_eq_true rfl⟩) (fun u_33 H locs h_31 hw => ?_)
  replace hw := xS_words hw
  refine lv_aload_n hx hb dX3_reset_14 rfl (lv_at hl 1 rfl) ?_
  refine lv_iload_n hx hb dX3_reset_15 rfl (lv_at hl 0 rfl) ?_
  refine lv_null hx hb dX3_reset_16 ?_
  refine r_kv hw (r_runV (rest := []) hC hw 2 (c_X3_setThingN l _ _ 2 12 5 v8_5 (wXl 2 (by decide)) wXc2 (wXl 12 (by decide)) wXc12) rk3 (wXl 2 (by decide)) wXc2 2 gX3_reset_X3_setThing rfl rfl rfl (by decide +kernel) ⟨Nat.le_of_ble_eq_true rfl, Nat.le_of_ble_eq_true rfl⟩ rfl hl.1 rfl (Nat.le_of_ble_eq_true rfl) dX3_reset_17 ⟨Nat.le_of_ble_eq_true rfl, Nat.le_of_ble_eq_true rfl⟩) (fun u_36 H locs h_34 hw => ?_)
  replace hw := xS_refs (v := 0) rfl hw
  refine lv_iinc (v := 6) (lv' := [(1, .int 6), (0, .ref (ad 2))]) hx hb dX3_reset_20 hl (k := 0) rfl (by first | rfl | decide) (by decide) rfl (fun ls hl => ?_)
  refine lv_goto (tgt := 2) hx hb dX3_reset_23 (by decide) ?_
  rw [sl_S κ 5 5 6 rfl rfl] at hw
  refine lv_iload_n hx hb dX3_reset_2 rfl (lv_at hl 0 rfl) ?_
  refine lv_bipush (v := 8) hx hb dX3_reset_3 (by decide) ?_
  refine lv_icmp_ge (tgt := 26) hx hb dX3_reset_5 (by decide) (fun c_ => absurd c_ (by decide)) (fun _ => ?_)
  refine lv_aload_n hx hb dX3_reset_8 rfl (lv_at hl 1 rfl) ?_
  refine lv_iload_n hx hb dX3_reset_9 rfl (lv_at hl 0 rfl) ?_
  refine lv_iconst (v := 0) hx hb dX3_reset_10 (by decide) ?_
  refine r_kv hw (r_runV (rest := []) hC hw 2 (c_X3_setWord l _ _ 2 8 6 0 v8_6 (wXl 2 (by decide)) wXc2 (wXl 8 (by decide)) wXc8) rk3 (wXl 2 (by decide)) wXc2 2 gX3_reset_X3_setWord rfl rfl rfl (by decide +kernel) ⟨Nat.le_of_ble_eq_true rfl, Nat.le_of_ble_eq_true rfl⟩ rfl hl.1 rfl (Nat.le_of_ble_eq_true rfl) dX3_reset_11 ⟨Nat.le_of_ble_eq_true rfl, Nat.le_of_ble_eq_true rfl⟩) (fun u_39 H locs h_37 hw => ?_)
  replace hw := xS_words hw
  refine lv_aload_n hx hb dX3_reset_14 rfl (lv_at hl 1 rfl) ?_
  refine lv_iload_n hx hb dX3_reset_15 rfl (lv_at hl 0 rfl) ?_
  refine lv_null hx hb dX3_reset_16 ?_
  refine r_kv hw (r_runV (rest := []) hC hw 2 (c_X3_setThingN l _ _ 2 12 6 v8_6 (wXl 2 (by decide)) wXc2 (wXl 12 (by decide)) wXc12) rk3 (wXl 2 (by decide)) wXc2 2 gX3_reset_X3_setThing rfl rfl rfl (by decide +kernel) ⟨Nat.le_of_ble_eq_true rfl, Nat.le_of_ble_eq_true rfl⟩ rfl hl.1 rfl (Nat.le_of_ble_eq_true rfl) dX3_reset_17 ⟨Nat.le_of_ble_eq_true rfl, Nat.le_of_ble_eq_true rfl⟩) (fun u_42 H locs h_40 hw => ?_)
  replace hw := xS_refs (v := 0) rfl hw
  refine lv_iinc (v := 7) (lv' := [(1, .int 7), (0, .ref (ad 2))]) hx hb dX3_reset_20 hl (k := 0) rfl (by first | rfl | decide) (by decide) rfl (fun ls hl => ?_)
  refine lv_goto (tgt := 2) hx hb dX3_reset_23 (by decide) ?_
  rw [sl_S κ 6 6 7 rfl rfl] at hw
  refine lv_iload_n hx hb dX3_reset_2 rfl (lv_at hl 0 rfl) ?_
  refine lv_bipush (v := 8) hx hb dX3_reset_3 (by decide) ?_
  refine lv_icmp_ge (tgt := 26) hx hb dX3_reset_5 (by decide) (fun c_ => absurd c_ (by decide)) (fun _ => ?_)
  refine lv_aload_n hx hb dX3_reset_8 rfl (lv_at hl 1 rfl) ?_
  refine lv_iload_n hx hb dX3_reset_9 rfl (lv_at hl 0 rfl) ?_
  refine lv_iconst (v := 0) hx hb dX3_reset_10 (by decide) ?_
  refine r_kv hw (r_runV (rest := []) hC hw 2 (c_X3_setWord l _ _ 2 8 7 0 v8_7 (wXl 2 (by decide)) wXc2 (wXl 8 (by decide)) wXc8) rk3 (wXl 2 (by decide)) wXc2 2 gX3_reset_X3_setWord rfl rfl rfl (by decide +kernel) ⟨Nat.le_of_ble_eq_true rfl, Nat.le_of_ble_eq_true rfl⟩ rfl hl.1 rfl (Nat.le_of_ble_eq_true rfl) dX3_reset_11 ⟨Nat.le_of_ble_eq_true rfl, Nat.le_of_ble_eq_true rfl⟩) (fun u_45 H locs h_43 hw => ?_)
  replace hw := xS_words hw
  refine lv_aload_n hx hb dX3_reset_14 rfl (lv_at hl 1 rfl) ?_
  refine lv_iload_n hx hb dX3_reset_15 rfl (lv_at hl 0 rfl) ?_
  refine lv_null hx hb dX3_reset_16 ?_
  refine r_kv hw (r_runV (rest := []) hC hw 2 (c_X3_setThingN l _ _ 2 12 7 v8_7 (wXl 2 (by decide)) wXc2 (wXl 12 (by decide)) wXc12) rk3 (wXl 2 (by decide)) wXc2 2 gX3_reset_X3_setThing rfl rfl rfl (by decide +kernel) ⟨Nat.le_of_ble_eq_true rfl, Nat.le_of_ble_eq_true rfl⟩ rfl hl.1 rfl (Nat.le_of_ble_eq_true rfl) dX3_reset_17 ⟨Nat.le_of_ble_eq_true rfl, Nat.le_of_ble_eq_true rfl⟩) (fun u_48 H locs h_46 hw => ?_)
  replace hw := xS_refs (v := 0) rfl hw
  refine lv_iinc (v := 8) (lv' := [(1, .int 8), (0, .ref (ad 2))]) hx hb dX3_reset_20 hl (k := 0) rfl (by first | rfl | decide) (by decide) rfl (fun ls hl => ?_)
  refine lv_goto (tgt := 2) hx hb dX3_reset_23 (by decide) ?_
  rw [sl_S κ 7 7 8 rfl rfl] at hw
  generalize hK8 : sl κ 8 = K8 at hw
  refine lv_iload_n hx hb dX3_reset_2 rfl (lv_at hl 0 rfl) ?_
  refine lv_bipush (v := 8) hx hb dX3_reset_3 (by decide) ?_
  refine lv_icmp_ge (tgt := 26) hx hb dX3_reset_5 (by decide) (fun _ => ?_) (fun c_ => absurd (by decide) c_)
  refine lv_iconst (v := 0) hx hb dX3_reset_26 (by decide) ?_
  refine lv_istore_n (lv' := [(1, .int 0), (0, .ref (ad 2))]) hx hb dX3_reset_27 rfl hl (by decide) rfl (fun ls hl => ?_)
  replace hw : rX D q (rA (wX q ad κ τ) sz) s.heap s (wX q ad (sl2 K8 0) τ) _ _ := hw
  refine lv_iload_n hx hb dX3_reset_28 rfl (lv_at hl 0 rfl) ?_
  refine lv_iconst (v := 4) hx hb dX3_reset_29 (by decide) ?_
  refine lv_icmp_ge (tgt := 57) hx hb dX3_reset_30 (by decide) (fun c_ => absurd c_ (by decide)) (fun _ => ?_)
  refine lv_aload_n hx hb dX3_reset_33 rfl (lv_at hl 1 rfl) ?_
  refine lv_iload_n hx hb dX3_reset_34 rfl (lv_at hl 0 rfl) ?_
  refine lv_lconst (v := 0) hx hb dX3_reset_35 (by decide) ?_
  refine r_kv hw (r_runV (rest := []) hC hw 2 (c_X3_setLong l _ _ 2 9 0 0 v4_0 (wXl 2 (by decide)) wXc2 (wXl 9 (by decide)) wXc9) rk3 (wXl 2 (by decide)) wXc2 2 gX3_reset_X3_setLong rfl rfl rfl (by decide +kernel) ⟨Nat.le_of_ble_eq_true rfl, Nat.le_of_ble_eq_true rfl⟩ rfl hl.1 rfl (Nat.le_of_ble_eq_true rfl) dX3_reset_36 ⟨Nat.le_of_ble_eq_true rfl, Nat.le_of_ble_eq_true rfl⟩) (fun u_51 H locs h_49 hw => ?_)
  replace hw := xS_longs hw
  refine lv_aload_n hx hb dX3_reset_39 rfl (lv_at hl 1 rfl) ?_
  refine lv_iload_n hx hb dX3_reset_40 rfl (lv_at hl 0 rfl) ?_
  refine lv_fconst0 hx hb dX3_reset_41 ?_
  refine r_kv hw (r_runV (rest := []) hC hw 2 (c_X3_setSingle l _ _ 2 10 0 FP.fconst0 v4_0 (wXl 2 (by decide)) wXc2 (wXl 10 (by decide)) wXc10) rk3 (wXl 2 (by decide)) wXc2 2 gX3_reset_X3_setSingle rfl rfl rfl (by decide +kernel) ⟨Nat.le_of_ble_eq_true rfl, Nat.le_of_ble_eq_true rfl⟩ rfl hl.1 rfl (Nat.le_of_ble_eq_true rfl) dX3_reset_42 ⟨Nat.le_of_ble_eq_true rfl, Nat.le_of_ble_eq_true rfl⟩) (fun u_54 H locs h_52 hw => ?_)
  replace hw := xS_singles hw
  refine lv_aload_n hx hb dX3_reset_45 rfl (lv_at hl 1 rfl) ?_
  refine lv_iload_n hx hb dX3_reset_46 rfl (lv_at hl 0 rfl) ?_
  refine lv_dconst0 hx hb dX3_reset_47 ?_
  refine r_kv hw (r_runV (rest := []) hC hw 2 (c_X3_setDouble l _ _ 2 11 0 FP.dconst0 v4_0 (wXl 2 (by decide)) wXc2 (wXl 11 (by decide)) wXc11) rk3 (wXl 2 (by decide)) wXc2 2 gX3_reset_X3_setDouble rfl rfl rfl (by decide +kernel) ⟨Nat.le_of_ble_eq_true rfl, Nat.le_of_ble_eq_true rfl⟩ rfl hl.1 rfl (Nat.le_of_ble_eq_true rfl) dX3_reset_48 ⟨Nat.le_of_ble_eq_true rfl, Nat.le_of_ble_eq_true rfl⟩) (fun u_57 H locs h_55 hw => ?_)
  replace hw := xS_doubles hw
  refine lv_iinc (v := 1) (lv' := [(1, .int 1), (0, .ref (ad 2))]) hx hb dX3_reset_51 hl (k := 0) rfl (by first | rfl | decide) (by decide) rfl (fun ls hl => ?_)
  refine lv_goto (tgt := 28) hx hb dX3_reset_54 (by decide) ?_
  rw [sl2_S K8 0 0 1 rfl rfl] at hw
  refine lv_iload_n hx hb dX3_reset_28 rfl (lv_at hl 0 rfl) ?_
  refine lv_iconst (v := 4) hx hb dX3_reset_29 (by decide) ?_
  refine lv_icmp_ge (tgt := 57) hx hb dX3_reset_30 (by decide) (fun c_ => absurd c_ (by decide)) (fun _ => ?_)
  refine lv_aload_n hx hb dX3_reset_33 rfl (lv_at hl 1 rfl) ?_
  refine lv_iload_n hx hb dX3_reset_34 rfl (lv_at hl 0 rfl) ?_
  refine lv_lconst (v := 0) hx hb dX3_reset_35 (by decide) ?_
  refine r_kv hw (r_runV (rest := []) hC hw 2 (c_X3_setLong l _ _ 2 9 1 0 v4_1 (wXl 2 (by decide)) wXc2 (wXl 9 (by decide)) wXc9) rk3 (wXl 2 (by decide)) wXc2 2 gX3_reset_X3_setLong rfl rfl rfl (by decide +kernel) ⟨Nat.le_of_ble_eq_true rfl, Nat.le_of_ble_eq_true rfl⟩ rfl hl.1 rfl (Nat.le_of_ble_eq_true rfl) dX3_reset_36 ⟨Nat.le_of_ble_eq_true rfl, Nat.le_of_ble_eq_true rfl⟩) (fun u_60 H locs h_58 hw => ?_)
  replace hw := xS_longs hw
  refine lv_aload_n hx hb dX3_reset_39 rfl (lv_at hl 1 rfl) ?_
  refine lv_iload_n hx hb dX3_reset_40 rfl (lv_at hl 0 rfl) ?_
  refine lv_fconst0 hx hb dX3_reset_41 ?_
  refine r_kv hw (r_runV (rest := []) hC hw 2 (c_X3_setSingle l _ _ 2 10 1 FP.fconst0 v4_1 (wXl 2 (by decide)) wXc2 (wXl 10 (by decide)) wXc10) rk3 (wXl 2 (by decide)) wXc2 2 gX3_reset_X3_setSingle rfl rfl rfl (by decide +kernel) ⟨Nat.le_of_ble_eq_true rfl, Nat.le_of_ble_eq_true rfl⟩ rfl hl.1 rfl (Nat.le_of_ble_eq_true rfl) dX3_reset_42 ⟨Nat.le_of_ble_eq_true rfl, Nat.le_of_ble_eq_true rfl⟩) (fun u_63 H locs h_61 hw => ?_)
  replace hw := xS_singles hw
  refine lv_aload_n hx hb dX3_reset_45 rfl (lv_at hl 1 rfl) ?_
  refine lv_iload_n hx hb dX3_reset_46 rfl (lv_at hl 0 rfl) ?_
  refine lv_dconst0 hx hb dX3_reset_47 ?_
  refine r_kv hw (r_runV (rest := []) hC hw 2 (c_X3_setDouble l _ _ 2 11 1 FP.dconst0 v4_1 (wXl 2 (by decide)) wXc2 (wXl 11 (by decide)) wXc11) rk3 (wXl 2 (by decide)) wXc2 2 gX3_reset_X3_setDouble rfl rfl rfl (by decide +kernel) ⟨Nat.le_of_ble_eq_true rfl, Nat.le_of_ble_eq_true rfl⟩ rfl hl.1 rfl (Nat.le_of_ble_eq_true rfl) dX3_reset_48 ⟨Nat.le_of_ble_eq_true rfl, Nat.le_of_ble_eq_true rfl⟩) (fun u_66 H locs h_64 hw => ?_)
  replace hw := xS_doubles hw
  refine lv_iinc (v := 2) (lv' := [(1, .int 2), (0, .ref (ad 2))]) hx hb dX3_reset_51 hl (k := 0) rfl (by first | rfl | decide) (by decide) rfl (fun ls hl => ?_)
  refine lv_goto (tgt := 28) hx hb dX3_reset_54 (by decide) ?_
  rw [sl2_S K8 1 1 2 rfl rfl] at hw
  refine lv_iload_n hx hb dX3_reset_28 rfl (lv_at hl 0 rfl) ?_
  refine lv_iconst (v := 4) hx hb dX3_reset_29 (by decide) ?_
  refine lv_icmp_ge (tgt := 57) hx hb dX3_reset_30 (by decide) (fun c_ => absurd c_ (by decide)) (fun _ => ?_)
  refine lv_aload_n hx hb dX3_reset_33 rfl (lv_at hl 1 rfl) ?_
  refine lv_iload_n hx hb dX3_reset_34 rfl (lv_at hl 0 rfl) ?_
  refine lv_lconst (v := 0) hx hb dX3_reset_35 (by decide) ?_
  refine r_kv hw (r_runV (rest := []) hC hw 2 (c_X3_setLong l _ _ 2 9 2 0 v4_2 (wXl 2 (by decide)) wXc2 (wXl 9 (by decide)) wXc9) rk3 (wXl 2 (by decide)) wXc2 2 gX3_reset_X3_setLong rfl rfl rfl (by decide +kernel) ⟨Nat.le_of_ble_eq_true rfl, Nat.le_of_ble_eq_true rfl⟩ rfl hl.1 rfl (Nat.le_of_ble_eq_true rfl) dX3_reset_36 ⟨Nat.le_of_ble_eq_true rfl, Nat.le_of_ble_eq_true rfl⟩) (fun u_69 H locs h_67 hw => ?_)
  replace hw := xS_longs hw
  refine lv_aload_n hx hb dX3_reset_39 rfl (lv_at hl 1 rfl) ?_
  refine lv_iload_n hx hb dX3_reset_40 rfl (lv_at hl 0 rfl) ?_
  refine lv_fconst0 hx hb dX3_reset_41 ?_
  refine r_kv hw (r_runV (rest := []) hC hw 2 (c_X3_setSingle l _ _ 2 10 2 FP.fconst0 v4_2 (wXl 2 (by decide)) wXc2 (wXl 10 (by decide)) wXc10) rk3 (wXl 2 (by decide)) wXc2 2 gX3_reset_X3_setSingle rfl rfl rfl (by decide +kernel) ⟨Nat.le_of_ble_eq_true rfl, Nat.le_of_ble_eq_true rfl⟩ rfl hl.1 rfl (Nat.le_of_ble_eq_true rfl) dX3_reset_42 ⟨Nat.le_of_ble_eq_true rfl, Nat.le_of_ble_eq_true rfl⟩) (fun u_72 H locs h_70 hw => ?_)
  replace hw := xS_singles hw
  refine lv_aload_n hx hb dX3_reset_45 rfl (lv_at hl 1 rfl) ?_
  refine lv_iload_n hx hb dX3_reset_46 rfl (lv_at hl 0 rfl) ?_
  refine lv_dconst0 hx hb dX3_reset_47 ?_
  refine r_kv hw (r_runV (rest := []) hC hw 2 (c_X3_setDouble l _ _ 2 11 2 FP.dconst0 v4_2 (wXl 2 (by decide)) wXc2 (wXl 11 (by decide)) wXc11) rk3 (wXl 2 (by decide)) wXc2 2 gX3_reset_X3_setDouble rfl rfl rfl (by decide +kernel) ⟨Nat.le_of_ble_eq_true rfl, Nat.le_of_ble_eq_true rfl⟩ rfl hl.1 rfl (Nat.le_of_ble_eq_true rfl) dX3_reset_48 ⟨Nat.le_of_ble_eq_true rfl, Nat.le_of_ble_eq_true rfl⟩) (fun u_75 H locs h_73 hw => ?_)
  replace hw := xS_doubles hw
  refine lv_iinc (v := 3) (lv' := [(1, .int 3), (0, .ref (ad 2))]) hx hb dX3_reset_51 hl (k := 0) rfl (by first | rfl | decide) (by decide) rfl (fun ls hl => ?_)
  refine lv_goto (tgt := 28) hx hb dX3_reset_54 (by decide) ?_
  rw [sl2_S K8 2 2 3 rfl rfl] at hw
  refine lv_iload_n hx hb dX3_reset_28 rfl (lv_at hl 0 rfl) ?_
  refine lv_iconst (v := 4) hx hb dX3_reset_29 (by decide) ?_
  refine lv_icmp_ge (tgt := 57) hx hb dX3_reset_30 (by decide) (fun c_ => absurd c_ (by decide)) (fun _ => ?_)
  refine lv_aload_n hx hb dX3_reset_33 rfl (lv_at hl 1 rfl) ?_
  refine lv_iload_n hx hb dX3_reset_34 rfl (lv_at hl 0 rfl) ?_
  refine lv_lconst (v := 0) hx hb dX3_reset_35 (by decide) ?_
  refine r_kv hw (r_runV (rest := []) hC hw 2 (c_X3_setLong l _ _ 2 9 3 0 v4_3 (wXl 2 (by decide)) wXc2 (wXl 9 (by decide)) wXc9) rk3 (wXl 2 (by decide)) wXc2 2 gX3_reset_X3_setLong rfl rfl rfl (by decide +kernel) ⟨Nat.le_of_ble_eq_true rfl, Nat.le_of_ble_eq_true rfl⟩ rfl hl.1 rfl (Nat.le_of_ble_eq_true rfl) dX3_reset_36 ⟨Nat.le_of_ble_eq_true rfl, Nat.le_of_ble_eq_true rfl⟩) (fun u_78 H locs h_76 hw => ?_)
  replace hw := xS_longs hw
  refine lv_aload_n hx hb dX3_reset_39 rfl (lv_at hl 1 rfl) ?_
  refine lv_iload_n hx hb dX3_reset_40 rfl (lv_at hl 0 rfl) ?_
  refine lv_fconst0 hx hb dX3_reset_41 ?_
  refine r_kv hw (r_runV (rest := []) hC hw 2 (c_X3_setSingle l _ _ 2 10 3 FP.fconst0 v4_3 (wXl 2 (by decide)) wXc2 (wXl 10 (by decide)) wXc10) rk3 (wXl 2 (by decide)) wXc2 2 gX3_reset_X3_setSingle rfl rfl rfl (by decide +kernel) ⟨Nat.le_of_ble_eq_true rfl, Nat.le_of_ble_eq_true rfl⟩ rfl hl.1 rfl (Nat.le_of_ble_eq_true rfl) dX3_reset_42 ⟨Nat.le_of_ble_eq_true rfl, Nat.le_of_ble_eq_true rfl⟩) (fun u_81 H locs h_79 hw => ?_)
  replace hw := xS_singles hw
  refine lv_aload_n hx hb dX3_reset_45 rfl (lv_at hl 1 rfl) ?_
  refine lv_iload_n hx hb dX3_reset_46 rfl (lv_at hl 0 rfl) ?_
  refine lv_dconst0 hx hb dX3_reset_47 ?_
  refine r_kv hw (r_runV (rest := []) hC hw 2 (c_X3_setDouble l _ _ 2 11 3 FP.dconst0 v4_3 (wXl 2 (by decide)) wXc2 (wXl 11 (by decide)) wXc11) rk3 (wXl 2 (by decide)) wXc2 2 gX3_reset_X3_setDouble rfl rfl rfl (by decide +kernel) ⟨Nat.le_of_ble_eq_true rfl, Nat.le_of_ble_eq_true rfl⟩ rfl hl.1 rfl (Nat.le_of_ble_eq_true rfl) dX3_reset_48 ⟨Nat.le_of_ble_eq_true rfl, Nat.le_of_ble_eq_true rfl⟩) (fun u_84 H locs h_82 hw => ?_)
  replace hw := xS_doubles hw
  refine lv_iinc (v := 4) (lv' := [(1, .int 4), (0, .ref (ad 2))]) hx hb dX3_reset_51 hl (k := 0) rfl (by first | rfl | decide) (by decide) rfl (fun ls hl => ?_)
  refine lv_goto (tgt := 28) hx hb dX3_reset_54 (by decide) ?_
  rw [sl2_S K8 3 3 4 rfl rfl] at hw
  refine lv_iload_n hx hb dX3_reset_28 rfl (lv_at hl 0 rfl) ?_
  refine lv_iconst (v := 4) hx hb dX3_reset_29 (by decide) ?_
  refine lv_icmp_ge (tgt := 57) hx hb dX3_reset_30 (by decide) (fun _ => ?_) (fun c_ => absurd (by decide) c_)
  exact r_vret hC hr hlk hw ((sl2 K8 4), τ) rfl rfl (Nat.le_of_ble_eq_true rfl) (Nat.le_of_ble_eq_true rfl) dX3_reset_57

def bgK (κ : KS) : KS := goK (uI (uI (uI (uI (uI (uI (uI (uI κ 5 0) 6 0) 7 0) 8 0) 9 0) 10 (-1)) 2 0) 3 1) 0
set_option maxHeartbeats 4000000 in
set_option maxRecDepth 100000 in
theorem c_X4_begin (l : Launch) {D : va_G} {q : Nat → ClassId} {ad : Nat → Nat} {κ : KS} {τ : TAU} (sz : Nat) (hP : PR ad κ τ) : Met l yX4_begin wsX4_begin (rmz 2 42) (va_Pc [.ref (ad 3)] (rPre D q (wX q ad κ τ) sz)) (va_Qv (fun (u : KS × TAU) => u = (bgK κ, (τ.1, τ.2.1, τ.2.2.1, none))) (fun (u : KS × TAU) tt => rPo D (rA (wX q ad κ τ) sz) (wX q ad u.1 u.2) tt) (rA (wX q ad κ τ) sz)) 0 0 (rA (wX q ad κ τ) sz) := by
  refine r_start (cc := cX4_begin) (maxL := 1) (ret := none) (by decide) rfl (Nat.le_of_ble_eq_true rfl) ?_
  intro p e s m below meth c ls hC hr hlk hnm hsz hw hl
  have hx := hC.1
  have hb := hC.2.1
  have hl : lv_has ls 1 [(0, .ref (ad 3))] := hl
  refine lv_aload_n hx hb dX4_begin_0 rfl (lv_at hl 0 rfl) ?_
  refine lv_iconst (v := 0) hx hb dX4_begin_1 (by decide) ?_
  refine r_put hC hw rk4 in_X4_begin_4 3 (wXl 3 (by decide)) wXc3 9 (by decide) lk_X4_begin_46 rfl rfl rfl (Nat.le_of_ble_eq_true rfl) dX4_begin_2 (fun H locs hw => ?_)
  replace hw := xP_stepsDone hw
  refine lv_aload_n hx hb dX4_begin_5 rfl (lv_at hl 0 rfl) ?_
  refine lv_iconst (v := 0) hx hb dX4_begin_6 (by decide) ?_
  refine r_put hC hw rk4 in_X4_begin_4 3 (wXl 3 (by decide)) wXc3 10 (by decide) lk_X4_begin_49 rfl rfl rfl (Nat.le_of_ble_eq_true rfl) dX4_begin_7 (fun H locs hw => ?_)
  replace hw := xP_callCount hw
  refine lv_aload_n hx hb dX4_begin_10 rfl (lv_at hl 0 rfl) ?_
  refine lv_iconst (v := 0) hx hb dX4_begin_11 (by decide) ?_
  refine r_put hC hw rk4 in_X4_begin_4 3 (wXl 3 (by decide)) wXc3 11 (by decide) lk_X4_begin_52 rfl rfl rfl (Nat.le_of_ble_eq_true rfl) dX4_begin_12 (fun H locs hw => ?_)
  replace hw := xP_toldCount hw
  refine lv_aload_n hx hb dX4_begin_15 rfl (lv_at hl 0 rfl) ?_
  refine lv_iconst (v := 0) hx hb dX4_begin_16 (by decide) ?_
  refine r_put hC hw rk4 in_X4_begin_4 3 (wXl 3 (by decide)) wXc3 12 (by decide) lk_X4_begin_55 rfl rfl rfl (Nat.le_of_ble_eq_true rfl) dX4_begin_17 (fun H locs hw => ?_)
  replace hw := xP_failureCount hw
  refine lv_aload_n hx hb dX4_begin_20 rfl (lv_at hl 0 rfl) ?_
  refine lv_iconst (v := 0) hx hb dX4_begin_21 (by decide) ?_
  refine r_put hC hw rk4 in_X4_begin_4 3 (wXl 3 (by decide)) wXc3 13 (by decide) lk_X4_begin_58 rfl rfl rfl (Nat.le_of_ble_eq_true rfl) dX4_begin_22 (fun H locs hw => ?_)
  replace hw := xP_failure hw
  refine lv_aload_n hx hb dX4_begin_25 rfl (lv_at hl 0 rfl) ?_
  refine lv_iconst (v := (-1)) hx hb dX4_begin_26 (by decide) ?_
  refine r_put hC hw rk4 in_X4_begin_4 3 (wXl 3 (by decide)) wXc3 14 (by decide) lk_X4_begin_42 rfl rfl rfl (Nat.le_of_ble_eq_true rfl) dX4_begin_27 (fun H locs hw => ?_)
  replace hw := xP_failurePlace hw
  refine lv_aload_n hx hb dX4_begin_30 rfl (lv_at hl 0 rfl) ?_
  refine lv_null hx hb dX4_begin_31 ?_
  refine r_topv (y := va_rf ((none : Option Nat).map ad)) rfl ?_
  refine r_put hC hw rk4 in_X4_begin_4 3 (wXl 3 (by decide)) wXc3 15 (by decide) lk_X4_begin_61 rfl (rf_n _ _) (rf_f _ _) (Nat.le_of_ble_eq_true rfl) dX4_begin_32 (fun H locs hw => ?_)
  replace hw := xP_thrown hw
  refine lv_aload_n hx hb dX4_begin_35 rfl (lv_at hl 0 rfl) ?_
  refine r_get hC hw rk4 in_X4_begin_4 3 (wXl 3 (by decide)) wXc3 3 (by decide) lk_X4_begin_31 (v := .ref (ad 5)) rfl dX4_begin_36 ?_
  refine lv_iconst (v := 0) hx hb dX4_begin_39 (by decide) ?_
  refine r_put hC hw rk7 in_X4_begin_7 5 (wXl 5 (by decide)) wXc5 1 (by decide) lk_X4_begin_65 rfl rfl rfl (Nat.le_of_ble_eq_true rfl) dX4_begin_40 (fun H locs hw => ?_)
  replace hw := xP_made0 hw
  refine lv_aload_n hx hb dX4_begin_43 rfl (lv_at hl 0 rfl) ?_
  refine lv_iconst (v := 1) hx hb dX4_begin_44 (by decide) ?_
  refine r_put hC hw rk4 in_X4_begin_4 3 (wXl 3 (by decide)) wXc3 6 (by decide) lk_X4_begin_68 rfl rfl rfl (Nat.le_of_ble_eq_true rfl) dX4_begin_45 (fun H locs hw => ?_)
  replace hw := xP_phase hw
  refine lv_aload_n hx hb dX4_begin_48 rfl (lv_at hl 0 rfl) ?_
  refine lv_iconst (v := 0) hx hb dX4_begin_49 (by decide) ?_
  refine r_kv hw (r_runV (rest := []) hC hw 3 (c_X4_goTo (ad := ad) l _ 0 (by exact hP)) rk4 (wXl 3 (by decide)) wXc3 1 gX4_begin_X4_goTo rfl rfl rfl (by decide +kernel) ⟨Nat.le_of_ble_eq_true rfl, Nat.le_of_ble_eq_true rfl⟩ rfl hl.1 rfl (Nat.le_of_ble_eq_true rfl) dX4_begin_50 ⟨Nat.le_of_ble_eq_true rfl, Nat.le_of_ble_eq_true rfl⟩) (fun u_3 H locs h_1 hw => ?_)
  subst h_1
  dsimp only at hw
  exact r_vret hC hr hlk hw ((goK (uI (uI (uI (uI (uI (uI (uI (uI κ 5 0) 6 0) 7 0) 8 0) 9 0) 10 (-1)) 2 0) 3 1) 0), (τ.1, τ.2.1, τ.2.2.1, none)) rfl rfl (Nat.le_of_ble_eq_true rfl) (Nat.le_of_ble_eq_true rfl) dX4_begin_53

theorem bgK_st (κ : KS) : bgK (sl2 (sl κ 8) 4) = uI (stK κ) 3 (if sI κ 0 ≤ 0 then 2 else 1) := by
  have e0 : sI (sl2 (sl κ 8) 4) 0 = sI κ 0 := by
    show (sl2 (sl κ 8) 4).1 0 = _
    rw [sl2_I, sl_I]
  unfold bgK stK goK
  generalize sl2 (sl κ 8) 4 = K at *
  rw [if_pos (by decide)]
  show (if sI K 0 ≤ 0 then _ else _) = _
  rw [e0]
  by_cases h : sI κ 0 ≤ 0
  · rw [if_pos h, if_pos h]
    refine KS_ext (fun i => ?_) rfl
    match i with
    | 0 => rfl
    | 1 => rfl
    | 2 => rfl
    | 3 => rfl
    | 4 => rfl
    | 5 => rfl
    | 6 => rfl
    | 7 => rfl
    | 8 => rfl
    | 9 => rfl
    | 10 => rfl
    | i + 11 => rfl
  · rw [if_neg h, if_neg h]
    refine KS_ext (fun i => ?_) rfl
    match i with
    | 0 => rfl
    | 1 => rfl
    | 2 => rfl
    | 3 => rfl
    | 4 => rfl
    | 5 => rfl
    | 6 => rfl
    | 7 => rfl
    | 8 => rfl
    | 9 => rfl
    | 10 => rfl
    | i + 11 => rfl
def staR (κ : KS) : Int32 × KS := (if sI κ 0 ≤ 0 then 0 else 1, uI (stK κ) 3 (if sI κ 0 ≤ 0 then 2 else 1))
theorem staR_eq (κ : KS) (t : Nat → Int32) : startR κ t = ((staR κ).1, ((staR κ).2, va_up (va_up t 4 0) 5 0)) := by
  unfold startR staR
  by_cases h : sI κ 0 ≤ 0
  · rw [if_pos h, if_pos h, if_pos h]
  · rw [if_neg h, if_neg h, if_neg h]
set_option maxHeartbeats 4000000 in
set_option maxRecDepth 100000 in
theorem c_X8_start (l : Launch) {D : va_G} {q : Nat → ClassId} {ad : Nat → Nat} {κ : KS} {τ : TAU} (sz : Nat) (hP : PR ad κ τ) : Met l yX8_start wsX8_start (rmz 3 62) (va_Pc [.ref (ad 0)] (rPre D q (wX q ad κ τ) sz)) (va_Qi (fun (r : Int32) (u : KS × TAU) => (r, u.1) = staR κ ∧ u.2 = (τ.1, τ.2.1, τ.2.2.1, none)) (fun (u : KS × TAU) tt => rPo D (rA (wX q ad κ τ) sz) (wX q ad u.1 u.2) tt) (rA (wX q ad κ τ) sz)) 0 0 (rA (wX q ad κ τ) sz) := by
  refine r_start (cc := cX8_start) (maxL := 1) (ret := (some .boolean)) (by decide) rfl (Nat.le_of_ble_eq_true rfl) ?_
  intro p e s m below meth c ls hC hr hlk hnm hsz hw hl
  have hx := hC.1
  have hb := hC.2.1
  have hl : lv_has ls 1 [(0, .ref (ad 0))] := hl
  refine lv_aload_n hx hb dX8_start_0 rfl (lv_at hl 0 rfl) ?_
  refine r_get hC hw rk8 in_X8_start_8 0 (wXl 0 (by decide)) wXc0 1 (by decide) lk_X8_start_19 (v := .ref (ad 2)) rfl dX8_start_1 ?_
  refine r_kv hw (r_runV (rest := []) hC hw 2 (c_X3_reset (ad := ad) l _) rk3 (wXl 2 (by decide)) wXc2 0 gX8_start_X3_reset rfl rfl rfl (by decide +kernel) ⟨Nat.le_of_ble_eq_true rfl, Nat.le_of_ble_eq_true rfl⟩ rfl hl.1 rfl (Nat.le_of_ble_eq_true rfl) dX8_start_4 ⟨Nat.le_of_ble_eq_true rfl, Nat.le_of_ble_eq_true rfl⟩) (fun u_3 H locs h_1 hw => ?_)
  subst h_1
  dsimp only at hw
  have hP2 : PR ad (sl2 (sl κ 8) 4) τ := by
    have e : (sl2 (sl κ 8) 4).1 = κ.1 := by rw [sl2_I, sl_I]
    unfold PR sI; rw [e]; exact hP
  have hb0 := bgK_st κ
  generalize sl2 (sl κ 8) 4 = K4 at hw hP2 hb0
  refine lv_aload_n hx hb dX8_start_7 rfl (lv_at hl 0 rfl) ?_
  refine r_get hC hw rk8 in_X8_start_8 0 (wXl 0 (by decide)) wXc0 2 (by decide) lk_X8_start_28 (v := .ref (ad 3)) rfl dX8_start_8 ?_
  refine r_kv hw (r_runV (rest := []) hC hw 3 (c_X4_begin (ad := ad) l _ hP2) rk4 (wXl 3 (by decide)) wXc3 0 gX8_start_X4_begin rfl rfl rfl (by decide +kernel) ⟨Nat.le_of_ble_eq_true rfl, Nat.le_of_ble_eq_true rfl⟩ rfl hl.1 rfl (Nat.le_of_ble_eq_true rfl) dX8_start_11 ⟨Nat.le_of_ble_eq_true rfl, Nat.le_of_ble_eq_true rfl⟩) (fun u_6 H locs h_4 hw => ?_)
  subst h_4
  dsimp only at hw
  rw [hb0] at hw
  have e0 : sI (uI (stK κ) 3 (if sI κ 0 ≤ 0 then 2 else 1)) 0 = sI κ 0 := by show (sl2 (sl κ 8) 4).1 0 = _; rw [sl2_I, sl_I]
  generalize hKs : uI (stK κ) 3 (if sI κ 0 ≤ 0 then 2 else 1) = Ks at hw e0
  refine lv_aload_n hx hb dX8_start_14 rfl (lv_at hl 0 rfl) ?_
  refine r_get hC hw rk8 in_X8_start_8 0 (wXl 0 (by decide)) wXc0 0 (by decide) lk_X8_start_10 (v := .ref (ad 1)) rfl dX8_start_15 ?_
  refine r_get hC hw rk1 in_X8_start_1 1 (wXl 1 (by decide)) wXc1 2 (by decide) lk_X8_start_36 (v := .int (sI Ks 0)) rfl dX8_start_18 ?_
  refine lv_if_le (tgt := 28) hx hb dX8_start_21 (by decide) (fun c_7 => ?_) (fun c_7 => ?_)
  · refine lv_iconst (v := 0) hx hb dX8_start_28 (by decide) ?_
    rw [e0] at c_7
    exact r_zret hC hr (by decide) hlk hw (Ks, (τ.1, τ.2.1, τ.2.2.1, none)) rfl ⟨by unfold staR; rw [if_pos c_7, ← hKs, if_pos c_7], rfl⟩ (Nat.le_of_ble_eq_true rfl) (Nat.le_of_ble_eq_true rfl) dX8_start_29
  · refine lv_iconst (v := 1) hx hb dX8_start_24 (by decide) ?_
    refine lv_goto (tgt := 29) hx hb dX8_start_25 (by decide) ?_
    rw [e0] at c_7
    exact r_zret hC hr (by decide) hlk hw (Ks, (τ.1, τ.2.1, τ.2.2.1, none)) rfl ⟨by unfold staR; rw [if_neg c_7, ← hKs, if_neg c_7], rfl⟩ (Nat.le_of_ble_eq_true rfl) (Nat.le_of_ble_eq_true rfl) dX8_start_29

