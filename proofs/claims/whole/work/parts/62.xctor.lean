theorem Kp.t2 {w W W2 : wT} {X X2 N N2 : Nat → Prop} (h : Kp w W X N) (h2 : Kp W W2 X2 N2) (hX : ∀ r, X2 r → X r ∨ N r) (hN : ∀ r, N2 r → N r) (hd : ∀ r, w.2.1 r → N r → False) : Kp w W2 X N := by
  refine ⟨fun r hr => ?_, fun r hr => ?_⟩
  · have z := h.1 r hr
    have z2 := h2.1 r z.1
    refine ⟨z2.1, z2.2.1.trans z.2.1, fun hx => (z2.2.2 (fun q => ?_)).trans (z.2.2 hx)⟩
    rcases hX r q with q | q
    · exact hx q
    · exact hd r hr q
  · rcases h2.2 r hr with q | q
    · exact h.2 r q
    · exact Or.inr (hN r q)
set_option maxHeartbeats 4000000 in
set_option maxRecDepth 100000 in
theorem c_X1_init (l : Launch) {D : va_G} {q : Nat → ClassId} (w : wT) (sz : Nat) (hl_i : w.2.1 1) (hc_i : w.2.2 1 = .inr (1, [.null, .null, .int 0, .int 0])) (h6 : ¬ w.2.1 6) (h7 : ¬ w.2.1 7) : Met l yX1_init wsX1_init (rmc 1 12 2 166) (va_Pc [.ref (w.1 1)] (rPre D q w sz)) (va_Qv (fun (u : wT) => Kp w u (fun r => r = 1) (fun r => r = 6 ∨ r = 7) ∧ ∃ a_z6 a_z7, At u 1 (w.1 1) (.inr (1, [.ref a_z6, .ref a_z7, .int 0, .int 0])) ∧ At u 6 a_z6 (.inl (q 4, 150, .inr (.inr (.inr (.inr (fun _ => none)))))) ∧ At u 7 a_z7 (.inl (q 5, 16, .inr (.inr (.inr (.inr (fun _ => none))))))) (fun (u : wT) tt => rPo D (rA w sz) u tt) (rA w sz)) 2 166 (rA w sz) := by
  refine r_start (cc := cX1_init) (maxL := 1) (ret := none) (by decide) rfl (Nat.le_of_ble_eq_true rfl) ?_
  intro p e s m below meth c ls hC hr hlk hnm hsz hw hl
  have hx := hC.1
  have hb := hC.2.1
  have hl : lv_has ls 1 [(0, .ref (w.1 1))] := hl
  have k_z1 : At w 1 (w.1 1) (.inr (1, [.null, .null, .int 0, .int 0])) := ⟨hl_i, rfl, hc_i⟩
  have n_z6 : Nl w 6 := h6
  have n_z7 : Nl w 7 := h7
  have kp : Kp w w (fun r => r = 1) (fun r => r = 6 ∨ r = 7) := Kp.rf
  refine lv_aload_n hx hb dX1_init_0 rfl (lv_at hl 0 rfl) ?_
  refine a_obj hC lk_X1_init_3 lki_X1_init_3 lkc_X1_init_3 hl.1 dX1_init_1 (Nat.le_of_ble_eq_true rfl) (Nat.le_of_ble_eq_true rfl) ?_
  refine lv_aload_n hx hb dX1_init_4 rfl (lv_at hl 0 rfl) ?_
  refine lv_sipush (v := 150) hx hb dX1_init_5 (by decide) ?_
  refine a_newq hC hw 4 lk_X1_init_9 hw.1.2.2.2.1 rfl 6 n_z6 (N' := 150) (by decide) rfl (by decide) (Nat.le_of_ble_eq_true rfl) (Nat.le_of_ble_eq_true rfl) dX1_init_8 (fun a_z6 W H hup hw => ?_)
  replace k_z1 := k_z1.m hup (by omega)
  have k_z6 := At.n hup
  replace n_z7 := n_z7.n hup (by omega)
  replace kp := kp.n hup (by omega) (by assumption)
  clear hup
  refine a_putF hC hw rk1 in_X1_init_1 k_z1 0 (by decide) lk_X1_init_11 rfl hnm rfl rfl rfl (Nat.le_of_ble_eq_true rfl) dX1_init_11 (fun W H locs hup hw => ?_)
  replace k_z6 := k_z6.v hup (by omega)
  replace k_z1 : At W 1 (w.1 1) (.inr (1, [.ref a_z6, .null, .int 0, .int 0])) := k_z1.u hup
  replace n_z7 := n_z7.u hup
  replace kp := kp.u hup (by first | exact Or.inl (by omega) | exact Or.inr (by assumption))
  clear hup
  refine lv_aload_n hx hb dX1_init_14 rfl (lv_at hl 0 rfl) ?_
  refine lv_bipush (v := 16) hx hb dX1_init_15 (by decide) ?_
  refine a_newq hC hw 5 lk_X1_init_17 hw.1.2.2.2.2 rfl 7 n_z7 (N' := 16) (by decide) rfl (by decide) (Nat.le_of_ble_eq_true rfl) (Nat.le_of_ble_eq_true rfl) dX1_init_17 (fun a_z7 W H hup hw => ?_)
  replace k_z1 := k_z1.m hup (by omega)
  replace k_z6 := k_z6.m hup (by omega)
  have k_z7 := At.n hup
  replace kp := kp.n hup (by omega) (by assumption)
  clear hup
  refine a_putF hC hw rk1 in_X1_init_1 k_z1 1 (by decide) lk_X1_init_19 rfl hnm rfl rfl rfl (Nat.le_of_ble_eq_true rfl) dX1_init_20 (fun W H locs hup hw => ?_)
  replace k_z6 := k_z6.v hup (by omega)
  replace k_z7 := k_z7.v hup (by omega)
  replace k_z1 : At W 1 (w.1 1) (.inr (1, [.ref a_z6, .ref a_z7, .int 0, .int 0])) := k_z1.u hup
  replace kp := kp.u hup (by first | exact Or.inl (by omega) | exact Or.inr (by assumption))
  clear hup
  exact r_vret hC hr hlk hw W rfl ⟨kp, a_z6, a_z7, k_z1, k_z6, k_z7⟩ (Nat.le_of_ble_eq_true rfl) (Nat.le_of_ble_eq_true rfl) dX1_init_23

set_option maxHeartbeats 4000000 in
set_option maxRecDepth 100000 in
theorem c_X3_init (l : Launch) {D : va_G} {q : Nat → ClassId} (w : wT) (sz : Nat) (hl_i : w.2.1 2) (hc_i : w.2.2 2 = .inr (3, [.null, .null, .null, .null, .null])) (h8 : ¬ w.2.1 8) (h9 : ¬ w.2.1 9) (h10 : ¬ w.2.1 10) (h11 : ¬ w.2.1 11) (h12 : ¬ w.2.1 12) : Met l yX3_init wsX3_init (rmc 1 12 5 28) (va_Pc [.ref (w.1 2)] (rPre D q w sz)) (va_Qv (fun (u : wT) => Kp w u (fun r => r = 2) (fun r => r = 8 ∨ r = 9 ∨ r = 10 ∨ r = 11 ∨ r = 12) ∧ ∃ a_z8 a_z9 a_z10 a_z11 a_z12, At u 2 (w.1 2) (.inr (3, [.ref a_z8, .ref a_z9, .ref a_z10, .ref a_z11, .ref a_z12])) ∧ At u 8 a_z8 (.inl (q 0, 8, .inl (fun _ => 0))) ∧ At u 9 a_z9 (.inl (q 1, 4, .inr (.inl (fun _ => 0)))) ∧ At u 10 a_z10 (.inl (q 2, 4, .inr (.inr (.inl (fun _ => FP.fconst0))))) ∧ At u 11 a_z11 (.inl (q 3, 4, .inr (.inr (.inr (.inl (fun _ => FP.dconst0)))))) ∧ At u 12 a_z12 (.inl (q 6, 8, .inr (.inr (.inr (.inr (fun _ => none))))))) (fun (u : wT) tt => rPo D (rA w sz) u tt) (rA w sz)) 5 28 (rA w sz) := by
  refine r_start (cc := cX3_init) (maxL := 1) (ret := none) (by decide) rfl (Nat.le_of_ble_eq_true rfl) ?_
  intro p e s m below meth c ls hC hr hlk hnm hsz hw hl
  have hx := hC.1
  have hb := hC.2.1
  have hl : lv_has ls 1 [(0, .ref (w.1 2))] := hl
  have k_z2 : At w 2 (w.1 2) (.inr (3, [.null, .null, .null, .null, .null])) := ⟨hl_i, rfl, hc_i⟩
  have n_z8 : Nl w 8 := h8
  have n_z9 : Nl w 9 := h9
  have n_z10 : Nl w 10 := h10
  have n_z11 : Nl w 11 := h11
  have n_z12 : Nl w 12 := h12
  have kp : Kp w w (fun r => r = 2) (fun r => r = 8 ∨ r = 9 ∨ r = 10 ∨ r = 11 ∨ r = 12) := Kp.rf
  refine lv_aload_n hx hb dX3_init_0 rfl (lv_at hl 0 rfl) ?_
  refine a_obj hC lk_X3_init_3 lki_X3_init_3 lkc_X3_init_3 hl.1 dX3_init_1 (Nat.le_of_ble_eq_true rfl) (Nat.le_of_ble_eq_true rfl) ?_
  refine lv_aload_n hx hb dX3_init_4 rfl (lv_at hl 0 rfl) ?_
  refine lv_bipush (v := 8) hx hb dX3_init_5 (by decide) ?_
  refine a_newa hC hw 0 lka_X3_init_int rfl rfl (fun _ h => by cases h) 8 n_z8 (N' := 8) (fun cA => cell_i0 cA _) (by decide) rfl (by decide) (Nat.le_of_ble_eq_true rfl) (Nat.le_of_ble_eq_true rfl) dX3_init_7 (fun a_z8 W H hup hw => ?_)
  replace k_z2 := k_z2.m hup (by omega)
  have k_z8 := At.n hup
  replace n_z9 := n_z9.n hup (by omega)
  replace n_z10 := n_z10.n hup (by omega)
  replace n_z11 := n_z11.n hup (by omega)
  replace n_z12 := n_z12.n hup (by omega)
  replace kp := kp.n hup (by omega) (by assumption)
  clear hup
  refine a_putF hC hw rk3 in_X3_init_3 k_z2 0 (by decide) lk_X3_init_9 rfl hnm rfl rfl rfl (Nat.le_of_ble_eq_true rfl) dX3_init_9 (fun W H locs hup hw => ?_)
  replace k_z8 := k_z8.v hup (by omega)
  replace k_z2 : At W 2 (w.1 2) (.inr (3, [.ref a_z8, .null, .null, .null, .null])) := k_z2.u hup
  replace n_z9 := n_z9.u hup
  replace n_z10 := n_z10.u hup
  replace n_z11 := n_z11.u hup
  replace n_z12 := n_z12.u hup
  replace kp := kp.u hup (by first | exact Or.inl (by omega) | exact Or.inr (by assumption))
  clear hup
  refine lv_aload_n hx hb dX3_init_12 rfl (lv_at hl 0 rfl) ?_
  refine lv_iconst (v := 4) hx hb dX3_init_13 (by decide) ?_
  refine a_newa hC hw 1 lka_X3_init_long rfl rfl (fun _ h => by cases h) 9 n_z9 (N' := 4) (fun cA => cell_j0 cA _) (by decide) rfl (by decide) (Nat.le_of_ble_eq_true rfl) (Nat.le_of_ble_eq_true rfl) dX3_init_14 (fun a_z9 W H hup hw => ?_)
  replace k_z2 := k_z2.m hup (by omega)
  replace k_z8 := k_z8.m hup (by omega)
  have k_z9 := At.n hup
  replace n_z10 := n_z10.n hup (by omega)
  replace n_z11 := n_z11.n hup (by omega)
  replace n_z12 := n_z12.n hup (by omega)
  replace kp := kp.n hup (by omega) (by assumption)
  clear hup
  refine a_putF hC hw rk3 in_X3_init_3 k_z2 1 (by decide) lk_X3_init_15 rfl hnm rfl rfl rfl (Nat.le_of_ble_eq_true rfl) dX3_init_16 (fun W H locs hup hw => ?_)
  replace k_z8 := k_z8.v hup (by omega)
  replace k_z9 := k_z9.v hup (by omega)
  replace k_z2 : At W 2 (w.1 2) (.inr (3, [.ref a_z8, .ref a_z9, .null, .null, .null])) := k_z2.u hup
  replace n_z10 := n_z10.u hup
  replace n_z11 := n_z11.u hup
  replace n_z12 := n_z12.u hup
  replace kp := kp.u hup (by first | exact Or.inl (by omega) | exact Or.inr (by assumption))
  clear hup
  refine lv_aload_n hx hb dX3_init_19 rfl (lv_at hl 0 rfl) ?_
  refine lv_iconst (v := 4) hx hb dX3_init_20 (by decide) ?_
  refine a_newa hC hw 2 lka_X3_init_float rfl rfl (fun _ h => by cases h) 10 n_z10 (N' := 4) (fun cA => cell_f0 cA _) (by decide) rfl (by decide) (Nat.le_of_ble_eq_true rfl) (Nat.le_of_ble_eq_true rfl) dX3_init_21 (fun a_z10 W H hup hw => ?_)
  replace k_z2 := k_z2.m hup (by omega)
  replace k_z8 := k_z8.m hup (by omega)
  replace k_z9 := k_z9.m hup (by omega)
  have k_z10 := At.n hup
  replace n_z11 := n_z11.n hup (by omega)
  replace n_z12 := n_z12.n hup (by omega)
  replace kp := kp.n hup (by omega) (by assumption)
  clear hup
  refine a_putF hC hw rk3 in_X3_init_3 k_z2 2 (by decide) lk_X3_init_19 rfl hnm rfl rfl rfl (Nat.le_of_ble_eq_true rfl) dX3_init_23 (fun W H locs hup hw => ?_)
  replace k_z8 := k_z8.v hup (by omega)
  replace k_z9 := k_z9.v hup (by omega)
  replace k_z10 := k_z10.v hup (by omega)
  replace k_z2 : At W 2 (w.1 2) (.inr (3, [.ref a_z8, .ref a_z9, .ref a_z10, .null, .null])) := k_z2.u hup
  replace n_z11 := n_z11.u hup
  replace n_z12 := n_z12.u hup
  replace kp := kp.u hup (by first | exact Or.inl (by omega) | exact Or.inr (by assumption))
  clear hup
  refine lv_aload_n hx hb dX3_init_26 rfl (lv_at hl 0 rfl) ?_
  refine lv_iconst (v := 4) hx hb dX3_init_27 (by decide) ?_
  refine a_newa hC hw 3 lka_X3_init_double rfl rfl (fun _ h => by cases h) 11 n_z11 (N' := 4) (fun cA => cell_d0 cA _) (by decide) rfl (by decide) (Nat.le_of_ble_eq_true rfl) (Nat.le_of_ble_eq_true rfl) dX3_init_28 (fun a_z11 W H hup hw => ?_)
  replace k_z2 := k_z2.m hup (by omega)
  replace k_z8 := k_z8.m hup (by omega)
  replace k_z9 := k_z9.m hup (by omega)
  replace k_z10 := k_z10.m hup (by omega)
  have k_z11 := At.n hup
  replace n_z12 := n_z12.n hup (by omega)
  replace kp := kp.n hup (by omega) (by assumption)
  clear hup
  refine a_putF hC hw rk3 in_X3_init_3 k_z2 3 (by decide) lk_X3_init_23 rfl hnm rfl rfl rfl (Nat.le_of_ble_eq_true rfl) dX3_init_30 (fun W H locs hup hw => ?_)
  replace k_z8 := k_z8.v hup (by omega)
  replace k_z9 := k_z9.v hup (by omega)
  replace k_z10 := k_z10.v hup (by omega)
  replace k_z11 := k_z11.v hup (by omega)
  replace k_z2 : At W 2 (w.1 2) (.inr (3, [.ref a_z8, .ref a_z9, .ref a_z10, .ref a_z11, .null])) := k_z2.u hup
  replace n_z12 := n_z12.u hup
  replace kp := kp.u hup (by first | exact Or.inl (by omega) | exact Or.inr (by assumption))
  clear hup
  refine lv_aload_n hx hb dX3_init_33 rfl (lv_at hl 0 rfl) ?_
  refine lv_bipush (v := 8) hx hb dX3_init_34 (by decide) ?_
  refine a_newq hC hw 6 lk_X3_init_27 hw.1.2.2.1 rfl 12 n_z12 (N' := 8) (by decide) rfl (by decide) (Nat.le_of_ble_eq_true rfl) (Nat.le_of_ble_eq_true rfl) dX3_init_36 (fun a_z12 W H hup hw => ?_)
  replace k_z2 := k_z2.m hup (by omega)
  replace k_z8 := k_z8.m hup (by omega)
  replace k_z9 := k_z9.m hup (by omega)
  replace k_z10 := k_z10.m hup (by omega)
  replace k_z11 := k_z11.m hup (by omega)
  have k_z12 := At.n hup
  replace kp := kp.n hup (by omega) (by assumption)
  clear hup
  refine a_putF hC hw rk3 in_X3_init_3 k_z2 4 (by decide) lk_X3_init_29 rfl hnm rfl rfl rfl (Nat.le_of_ble_eq_true rfl) dX3_init_39 (fun W H locs hup hw => ?_)
  replace k_z8 := k_z8.v hup (by omega)
  replace k_z9 := k_z9.v hup (by omega)
  replace k_z10 := k_z10.v hup (by omega)
  replace k_z11 := k_z11.v hup (by omega)
  replace k_z12 := k_z12.v hup (by omega)
  replace k_z2 : At W 2 (w.1 2) (.inr (3, [.ref a_z8, .ref a_z9, .ref a_z10, .ref a_z11, .ref a_z12])) := k_z2.u hup
  replace kp := kp.u hup (by first | exact Or.inl (by omega) | exact Or.inr (by assumption))
  clear hup
  exact r_vret hC hr hlk hw W rfl ⟨kp, a_z8, a_z9, a_z10, a_z11, a_z12, k_z2, k_z8, k_z9, k_z10, k_z11, k_z12⟩ (Nat.le_of_ble_eq_true rfl) (Nat.le_of_ble_eq_true rfl) dX3_init_42

set_option maxHeartbeats 4000000 in
set_option maxRecDepth 100000 in
theorem c_X2_init (l : Launch) {D : va_G} {q : Nat → ClassId} (w : wT) (sz : Nat) (g2 : Nat) (hl_i : w.2.1 4) (hc_i : w.2.2 4 = .inr (2, [.null]))  : Met l yX2_init wsX2_init (rmz 1 12) (va_Pc [.ref (w.1 4), .ref g2] (rPre D q w sz)) (va_Qv (fun (u : wT) => Kp w u (fun r => r = 4) (fun _ => False) ∧ At u 4 (w.1 4) (.inr (2, [.ref g2]))) (fun (u : wT) tt => rPo D (rA w sz) u tt) (rA w sz)) 0 0 (rA w sz) := by
  refine r_start (cc := cX2_init) (maxL := 2) (ret := none) (by decide) rfl (Nat.le_of_ble_eq_true rfl) ?_
  intro p e s m below meth c ls hC hr hlk hnm hsz hw hl
  have hx := hC.1
  have hb := hC.2.1
  have hl : lv_has ls 2 [(0, .ref (w.1 4)), (1, .ref g2)] := hl
  have k_z4 : At w 4 (w.1 4) (.inr (2, [.null])) := ⟨hl_i, rfl, hc_i⟩
  have kp : Kp w w (fun r => r = 4) (fun _ => False) := Kp.rf
  refine lv_aload_n hx hb dX2_init_0 rfl (lv_at hl 0 rfl) ?_
  refine a_obj hC lk_X2_init_3 lki_X2_init_3 lkc_X2_init_3 hl.1 dX2_init_1 (Nat.le_of_ble_eq_true rfl) (Nat.le_of_ble_eq_true rfl) ?_
  refine lv_aload_n hx hb dX2_init_4 rfl (lv_at hl 0 rfl) ?_
  refine lv_aload_n hx hb dX2_init_5 rfl (lv_at hl 1 rfl) ?_
  refine a_putF hC hw rk2 in_X2_init_2 k_z4 0 (by decide) lk_X2_init_9 rfl hnm rfl rfl rfl (Nat.le_of_ble_eq_true rfl) dX2_init_6 (fun W H locs hup hw => ?_)
  replace k_z4 : At W 4 (w.1 4) (.inr (2, [.ref g2])) := k_z4.u hup
  replace kp := kp.u hup (by first | exact Or.inl (by omega) | exact Or.inr (by assumption))
  clear hup
  exact r_vret hC hr hlk hw W rfl ⟨kp, k_z4⟩ (Nat.le_of_ble_eq_true rfl) (Nat.le_of_ble_eq_true rfl) dX2_init_9

set_option maxHeartbeats 4000000 in
set_option maxRecDepth 100000 in
theorem c_X7_init (l : Launch) {D : va_G} {q : Nat → ClassId} (w : wT) (sz : Nat) (g2 : Nat) (hl_i : w.2.1 5) (hc_i : w.2.2 5 = .inr (7, [.null, .int 0]))  : Met l yX7_init wsX7_init (rmz 1 12) (va_Pc [.ref (w.1 5), .ref g2] (rPre D q w sz)) (va_Qv (fun (u : wT) => Kp w u (fun r => r = 5) (fun _ => False) ∧ At u 5 (w.1 5) (.inr (7, [.ref g2, .int 0]))) (fun (u : wT) tt => rPo D (rA w sz) u tt) (rA w sz)) 0 0 (rA w sz) := by
  refine r_start (cc := cX7_init) (maxL := 2) (ret := none) (by decide) rfl (Nat.le_of_ble_eq_true rfl) ?_
  intro p e s m below meth c ls hC hr hlk hnm hsz hw hl
  have hx := hC.1
  have hb := hC.2.1
  have hl : lv_has ls 2 [(0, .ref (w.1 5)), (1, .ref g2)] := hl
  have k_z5 : At w 5 (w.1 5) (.inr (7, [.null, .int 0])) := ⟨hl_i, rfl, hc_i⟩
  have kp : Kp w w (fun r => r = 5) (fun _ => False) := Kp.rf
  refine lv_aload_n hx hb dX7_init_0 rfl (lv_at hl 0 rfl) ?_
  refine a_obj hC lk_X7_init_3 lki_X7_init_3 lkc_X7_init_3 hl.1 dX7_init_1 (Nat.le_of_ble_eq_true rfl) (Nat.le_of_ble_eq_true rfl) ?_
  refine lv_aload_n hx hb dX7_init_4 rfl (lv_at hl 0 rfl) ?_
  refine lv_aload_n hx hb dX7_init_5 rfl (lv_at hl 1 rfl) ?_
  refine a_putF hC hw rk7 in_X7_init_7 k_z5 0 (by decide) lk_X7_init_9 rfl hnm rfl rfl rfl (Nat.le_of_ble_eq_true rfl) dX7_init_6 (fun W H locs hup hw => ?_)
  replace k_z5 : At W 5 (w.1 5) (.inr (7, [.ref g2, .int 0])) := k_z5.u hup
  replace kp := kp.u hup (by first | exact Or.inl (by omega) | exact Or.inr (by assumption))
  clear hup
  exact r_vret hC hr hlk hw W rfl ⟨kp, k_z5⟩ (Nat.le_of_ble_eq_true rfl) (Nat.le_of_ble_eq_true rfl) dX7_init_9

set_option maxHeartbeats 4000000 in
set_option maxRecDepth 100000 in
theorem c_X4_init (l : Launch) {D : va_G} {q : Nat → ClassId} (w : wT) (sz : Nat) (g1 g2 : Nat) (hl_i : w.2.1 3) (hc_i : w.2.2 3 = .inr (4, [.null, .null, .null, .null, .null, .null, .int 0, .int 0, .int 0, .int 0, .int 0, .int 0, .int 0, .int 0, .int 0, .null])) (h4 : ¬ w.2.1 4) (h5 : ¬ w.2.1 5) (h13 : ¬ w.2.1 13) (h14 : ¬ w.2.1 14) : Met l yX4_init wsX4_init (rmc 2 33 4 215) (va_Pc [.ref (w.1 3), .ref g1, .ref g2] (rPre D q w sz)) (va_Qv (fun (u : wT) => Kp w u (fun r => r = 3) (fun r => r = 4 ∨ r = 5 ∨ r = 13 ∨ r = 14) ∧ ∃ a_z4 a_z5 a_z13 a_z14, At u 3 (w.1 3) (.inr (4, [.ref g1, .ref g2, .ref a_z4, .ref a_z5, .ref a_z13, .ref a_z14, .int 0, .int 0, .int 0, .int 0, .int 0, .int 0, .int 0, .int 0, .int (-1), .null])) ∧ At u 4 a_z4 (.inr (2, [.ref g2])) ∧ At u 5 a_z5 (.inr (7, [.ref g2, .int 0])) ∧ At u 13 a_z13 (.inl (q 0, 12, .inl (fun _ => 0))) ∧ At u 14 a_z14 (.inl (q 0, 200, .inl (fun _ => 0)))) (fun (u : wT) tt => rPo D (rA w sz) u tt) (rA w sz)) 4 215 (rA w sz) := by
  refine r_start (cc := cX4_init) (maxL := 3) (ret := none) (by decide) rfl (Nat.le_of_ble_eq_true rfl) ?_
  intro p e s m below meth c ls hC hr hlk hnm hsz hw hl
  have hx := hC.1
  have hb := hC.2.1
  have hl : lv_has ls 3 [(0, .ref (w.1 3)), (1, .ref g1), (2, .ref g2)] := hl
  have k_z3 : At w 3 (w.1 3) (.inr (4, [.null, .null, .null, .null, .null, .null, .int 0, .int 0, .int 0, .int 0, .int 0, .int 0, .int 0, .int 0, .int 0, .null])) := ⟨hl_i, rfl, hc_i⟩
  have n_z4 : Nl w 4 := h4
  have n_z5 : Nl w 5 := h5
  have n_z13 : Nl w 13 := h13
  have n_z14 : Nl w 14 := h14
  have kp : Kp w w (fun r => r = 3) (fun r => r = 4 ∨ r = 5 ∨ r = 13 ∨ r = 14) := Kp.rf
  refine lv_aload_n hx hb dX4_init_0 rfl (lv_at hl 0 rfl) ?_
  refine a_obj hC lk_X4_init_3 lki_X4_init_3 lkc_X4_init_3 hl.1 dX4_init_1 (Nat.le_of_ble_eq_true rfl) (Nat.le_of_ble_eq_true rfl) ?_
  refine lv_aload_n hx hb dX4_init_4 rfl (lv_at hl 0 rfl) ?_
  refine lv_aload_n hx hb dX4_init_5 rfl (lv_at hl 1 rfl) ?_
  refine a_putF hC hw rk4 in_X4_init_4 k_z3 0 (by decide) lk_X4_init_9 rfl hnm rfl rfl rfl (Nat.le_of_ble_eq_true rfl) dX4_init_6 (fun W H locs hup hw => ?_)
  replace k_z3 : At W 3 (w.1 3) (.inr (4, [.ref g1, .null, .null, .null, .null, .null, .int 0, .int 0, .int 0, .int 0, .int 0, .int 0, .int 0, .int 0, .int 0, .null])) := k_z3.u hup
  replace n_z4 := n_z4.u hup
  replace n_z5 := n_z5.u hup
  replace n_z13 := n_z13.u hup
  replace n_z14 := n_z14.u hup
  replace kp := kp.u hup (by first | exact Or.inl (by omega) | exact Or.inr (by assumption))
  clear hup
  refine lv_aload_n hx hb dX4_init_9 rfl (lv_at hl 0 rfl) ?_
  refine lv_aload_n hx hb dX4_init_10 rfl (lv_at hl 2 rfl) ?_
  refine a_putF hC hw rk4 in_X4_init_4 k_z3 1 (by decide) lk_X4_init_15 rfl hnm rfl rfl rfl (Nat.le_of_ble_eq_true rfl) dX4_init_11 (fun W H locs hup hw => ?_)
  replace k_z3 : At W 3 (w.1 3) (.inr (4, [.ref g1, .ref g2, .null, .null, .null, .null, .int 0, .int 0, .int 0, .int 0, .int 0, .int 0, .int 0, .int 0, .int 0, .null])) := k_z3.u hup
  replace n_z4 := n_z4.u hup
  replace n_z5 := n_z5.u hup
  replace n_z13 := n_z13.u hup
  replace n_z14 := n_z14.u hup
  replace kp := kp.u hup (by first | exact Or.inl (by omega) | exact Or.inr (by assumption))
  clear hup
  refine lv_aload_n hx hb dX4_init_14 rfl (lv_at hl 0 rfl) ?_
  refine a_new hC hw rk2 in_X4_init_2 lk_X4_init_19 lki_X4_init_19 lkz_X4_init_19 4 n_z4 (fs := [.null]) (by decide) (Nat.le_of_ble_eq_true rfl) (Nat.le_of_ble_eq_true rfl) dX4_init_15 (fun a_z4 W H hup hw => ?_)
  replace k_z3 := k_z3.m hup (by omega)
  have k_z4 := At.n hup
  replace n_z5 := n_z5.n hup (by omega)
  replace n_z13 := n_z13.n hup (by omega)
  replace n_z14 := n_z14.n hup (by omega)
  replace kp := kp.n hup (by omega) (by assumption)
  clear hup
  refine lv_dup hx hb dX4_init_18 rfl ?_
  refine lv_aload_n hx hb dX4_init_19 rfl (lv_at hl 2 rfl) ?_
  refine r_kv hw (r_runI (rest := [.ref a_z4, .ref (w.1 3)]) hC hw (c_X2_init l W _ g2 k_z4.1 k_z4.2.2 ) 1 gX4_init_X2_init rfl rfl rfl lkz_X4_init_21 lk_X4_init_21 lki_X4_init_21 rfl (by decide +kernel) ⟨Nat.le_of_ble_eq_true rfl, Nat.le_of_ble_eq_true rfl⟩ rfl hl.1 (by rw [k_z4.2.1]; rfl) (Nat.le_of_ble_eq_true rfl) dX4_init_20 ⟨Nat.le_of_ble_eq_true rfl, Nat.le_of_ble_eq_true rfl⟩) (fun W2 H locs hth hw => ?_)
  obtain ⟨kp2, m_z4⟩ := hth
  rw [k_z4.2.1] at m_z4
  replace k_z3 := k_z3.k kp2 (by first | omega | exact fun h => h)
  replace k_z4 := m_z4
  replace n_z5 := n_z5.k kp2 (by first | omega | exact fun h => h)
  replace n_z13 := n_z13.k kp2 (by first | omega | exact fun h => h)
  replace n_z14 := n_z14.k kp2 (by first | omega | exact fun h => h)
  replace kp := kp.t2 kp2 (fun r hr => by first | omega | exact False.elim hr) (fun r hr => by first | omega | exact False.elim hr) (fun r hr hn => by rcases hn with rfl | rfl | rfl | rfl <;> (first | exact h4 hr | exact h5 hr | exact h13 hr | exact h14 hr))
  clear kp2
  generalize W2 = W at *
  refine a_putF hC hw rk4 in_X4_init_4 k_z3 2 (by decide) lk_X4_init_24 rfl hnm rfl rfl rfl (Nat.le_of_ble_eq_true rfl) dX4_init_23 (fun W H locs hup hw => ?_)
  replace k_z4 := k_z4.v hup (by omega)
  replace k_z3 : At W 3 (w.1 3) (.inr (4, [.ref g1, .ref g2, .ref a_z4, .null, .null, .null, .int 0, .int 0, .int 0, .int 0, .int 0, .int 0, .int 0, .int 0, .int 0, .null])) := k_z3.u hup
  replace n_z5 := n_z5.u hup
  replace n_z13 := n_z13.u hup
  replace n_z14 := n_z14.u hup
  replace kp := kp.u hup (by first | exact Or.inl (by omega) | exact Or.inr (by assumption))
  clear hup
  refine lv_aload_n hx hb dX4_init_26 rfl (lv_at hl 0 rfl) ?_
  refine a_new hC hw rk7 in_X4_init_7 lk_X4_init_28 lki_X4_init_28 lkz_X4_init_28 5 n_z5 (fs := [.null, .int 0]) (by decide) (Nat.le_of_ble_eq_true rfl) (Nat.le_of_ble_eq_true rfl) dX4_init_27 (fun a_z5 W H hup hw => ?_)
  replace k_z3 := k_z3.m hup (by omega)
  replace k_z4 := k_z4.m hup (by omega)
  have k_z5 := At.n hup
  replace n_z13 := n_z13.n hup (by omega)
  replace n_z14 := n_z14.n hup (by omega)
  replace kp := kp.n hup (by omega) (by assumption)
  clear hup
  refine lv_dup hx hb dX4_init_30 rfl ?_
  refine lv_aload_n hx hb dX4_init_31 rfl (lv_at hl 2 rfl) ?_
  refine r_kv hw (r_runI (rest := [.ref a_z5, .ref (w.1 3)]) hC hw (c_X7_init l W _ g2 k_z5.1 k_z5.2.2 ) 1 gX4_init_X7_init rfl rfl rfl lkz_X4_init_30 lk_X4_init_30 lki_X4_init_30 rfl (by decide +kernel) ⟨Nat.le_of_ble_eq_true rfl, Nat.le_of_ble_eq_true rfl⟩ rfl hl.1 (by rw [k_z5.2.1]; rfl) (Nat.le_of_ble_eq_true rfl) dX4_init_32 ⟨Nat.le_of_ble_eq_true rfl, Nat.le_of_ble_eq_true rfl⟩) (fun W2 H locs hth hw => ?_)
  obtain ⟨kp2, m_z5⟩ := hth
  rw [k_z5.2.1] at m_z5
  replace k_z3 := k_z3.k kp2 (by first | omega | exact fun h => h)
  replace k_z4 := k_z4.k kp2 (by first | omega | exact fun h => h)
  replace k_z5 := m_z5
  replace n_z13 := n_z13.k kp2 (by first | omega | exact fun h => h)
  replace n_z14 := n_z14.k kp2 (by first | omega | exact fun h => h)
  replace kp := kp.t2 kp2 (fun r hr => by first | omega | exact False.elim hr) (fun r hr => by first | omega | exact False.elim hr) (fun r hr hn => by rcases hn with rfl | rfl | rfl | rfl <;> (first | exact h4 hr | exact h5 hr | exact h13 hr | exact h14 hr))
  clear kp2
  generalize W2 = W at *
  refine a_putF hC hw rk4 in_X4_init_4 k_z3 3 (by decide) lk_X4_init_31 rfl hnm rfl rfl rfl (Nat.le_of_ble_eq_true rfl) dX4_init_35 (fun W H locs hup hw => ?_)
  replace k_z4 := k_z4.v hup (by omega)
  replace k_z5 := k_z5.v hup (by omega)
  replace k_z3 : At W 3 (w.1 3) (.inr (4, [.ref g1, .ref g2, .ref a_z4, .ref a_z5, .null, .null, .int 0, .int 0, .int 0, .int 0, .int 0, .int 0, .int 0, .int 0, .int 0, .null])) := k_z3.u hup
  replace n_z13 := n_z13.u hup
  replace n_z14 := n_z14.u hup
  replace kp := kp.u hup (by first | exact Or.inl (by omega) | exact Or.inr (by assumption))
  clear hup
  refine lv_aload_n hx hb dX4_init_38 rfl (lv_at hl 0 rfl) ?_
  refine lv_bipush (v := 12) hx hb dX4_init_39 (by decide) ?_
  refine a_newa hC hw 0 lka_X4_init_int rfl rfl (fun _ h => by cases h) 13 n_z13 (N' := 12) (fun cA => cell_i0 cA _) (by decide) rfl (by decide) (Nat.le_of_ble_eq_true rfl) (Nat.le_of_ble_eq_true rfl) dX4_init_41 (fun a_z13 W H hup hw => ?_)
  replace k_z3 := k_z3.m hup (by omega)
  replace k_z4 := k_z4.m hup (by omega)
  replace k_z5 := k_z5.m hup (by omega)
  have k_z13 := At.n hup
  replace n_z14 := n_z14.n hup (by omega)
  replace kp := kp.n hup (by omega) (by assumption)
  clear hup
  refine a_putF hC hw rk4 in_X4_init_4 k_z3 4 (by decide) lk_X4_init_35 rfl hnm rfl rfl rfl (Nat.le_of_ble_eq_true rfl) dX4_init_43 (fun W H locs hup hw => ?_)
  replace k_z4 := k_z4.v hup (by omega)
  replace k_z5 := k_z5.v hup (by omega)
  replace k_z13 := k_z13.v hup (by omega)
  replace k_z3 : At W 3 (w.1 3) (.inr (4, [.ref g1, .ref g2, .ref a_z4, .ref a_z5, .ref a_z13, .null, .int 0, .int 0, .int 0, .int 0, .int 0, .int 0, .int 0, .int 0, .int 0, .null])) := k_z3.u hup
  replace n_z14 := n_z14.u hup
  replace kp := kp.u hup (by first | exact Or.inl (by omega) | exact Or.inr (by assumption))
  clear hup
  refine lv_aload_n hx hb dX4_init_46 rfl (lv_at hl 0 rfl) ?_
  refine lv_sipush (v := 200) hx hb dX4_init_47 (by decide) ?_
  refine a_newa hC hw 0 lka_X4_init_int rfl rfl (fun _ h => by cases h) 14 n_z14 (N' := 200) (fun cA => cell_i0 cA _) (by decide) rfl (by decide) (Nat.le_of_ble_eq_true rfl) (Nat.le_of_ble_eq_true rfl) dX4_init_50 (fun a_z14 W H hup hw => ?_)
  replace k_z3 := k_z3.m hup (by omega)
  replace k_z4 := k_z4.m hup (by omega)
  replace k_z5 := k_z5.m hup (by omega)
  replace k_z13 := k_z13.m hup (by omega)
  have k_z14 := At.n hup
  replace kp := kp.n hup (by omega) (by assumption)
  clear hup
  refine a_putF hC hw rk4 in_X4_init_4 k_z3 5 (by decide) lk_X4_init_39 rfl hnm rfl rfl rfl (Nat.le_of_ble_eq_true rfl) dX4_init_52 (fun W H locs hup hw => ?_)
  replace k_z4 := k_z4.v hup (by omega)
  replace k_z5 := k_z5.v hup (by omega)
  replace k_z13 := k_z13.v hup (by omega)
  replace k_z14 := k_z14.v hup (by omega)
  replace k_z3 : At W 3 (w.1 3) (.inr (4, [.ref g1, .ref g2, .ref a_z4, .ref a_z5, .ref a_z13, .ref a_z14, .int 0, .int 0, .int 0, .int 0, .int 0, .int 0, .int 0, .int 0, .int 0, .null])) := k_z3.u hup
  replace kp := kp.u hup (by first | exact Or.inl (by omega) | exact Or.inr (by assumption))
  clear hup
  refine lv_aload_n hx hb dX4_init_55 rfl (lv_at hl 0 rfl) ?_
  refine lv_iconst (v := (-1)) hx hb dX4_init_56 (by decide) ?_
  refine a_put hC hw rk4 in_X4_init_4 k_z3 14 (by decide) lk_X4_init_42 rfl rfl rfl (Nat.le_of_ble_eq_true rfl) dX4_init_57 (fun W H locs hup hw => ?_)
  replace k_z4 := k_z4.v hup (by omega)
  replace k_z5 := k_z5.v hup (by omega)
  replace k_z13 := k_z13.v hup (by omega)
  replace k_z14 := k_z14.v hup (by omega)
  replace k_z3 : At W 3 (w.1 3) (.inr (4, [.ref g1, .ref g2, .ref a_z4, .ref a_z5, .ref a_z13, .ref a_z14, .int 0, .int 0, .int 0, .int 0, .int 0, .int 0, .int 0, .int 0, .int (-1), .null])) := k_z3.u hup
  replace kp := kp.u hup (by first | exact Or.inl (by omega) | exact Or.inr (by assumption))
  clear hup
  exact r_vret hC hr hlk hw W rfl ⟨kp, a_z4, a_z5, a_z13, a_z14, k_z3, k_z4, k_z5, k_z13, k_z14⟩ (Nat.le_of_ble_eq_true rfl) (Nat.le_of_ble_eq_true rfl) dX4_init_60

set_option maxHeartbeats 4000000 in
set_option maxRecDepth 100000 in
theorem c_X8_init (l : Launch) {D : va_G} {q : Nat → ClassId} (w : wT) (sz : Nat) (hl_i : w.2.1 0) (hc_i : w.2.2 0 = .inr (8, [.null, .null, .null])) (h1 : ¬ w.2.1 1) (h2 : ¬ w.2.1 2) (h3 : ¬ w.2.1 3) (h4 : ¬ w.2.1 4) (h5 : ¬ w.2.1 5) (h6 : ¬ w.2.1 6) (h7 : ¬ w.2.1 7) (h8 : ¬ w.2.1 8) (h9 : ¬ w.2.1 9) (h10 : ¬ w.2.1 10) (h11 : ¬ w.2.1 11) (h12 : ¬ w.2.1 12) (h13 : ¬ w.2.1 13) (h14 : ¬ w.2.1 14) : Met l yX8_init wsX8_init (rmc 3 55 14 434) (va_Pc [.ref (w.1 0)] (rPre D q w sz)) (va_Qv (fun (u : wT) => Kp w u (fun r => r = 0) (fun r => r = 1 ∨ r = 2 ∨ r = 3 ∨ r = 4 ∨ r = 5 ∨ r = 6 ∨ r = 7 ∨ r = 8 ∨ r = 9 ∨ r = 10 ∨ r = 11 ∨ r = 12 ∨ r = 13 ∨ r = 14) ∧ ∃ a_z1 a_z2 a_z3 a_z4 a_z5 a_z6 a_z7 a_z8 a_z9 a_z10 a_z11 a_z12 a_z13 a_z14, At u 0 (w.1 0) (.inr (8, [.ref a_z1, .ref a_z2, .ref a_z3])) ∧ At u 1 a_z1 (.inr (1, [.ref a_z6, .ref a_z7, .int 0, .int 0])) ∧ At u 2 a_z2 (.inr (3, [.ref a_z8, .ref a_z9, .ref a_z10, .ref a_z11, .ref a_z12])) ∧ At u 3 a_z3 (.inr (4, [.ref a_z1, .ref a_z2, .ref a_z4, .ref a_z5, .ref a_z13, .ref a_z14, .int 0, .int 0, .int 0, .int 0, .int 0, .int 0, .int 0, .int 0, .int (-1), .null])) ∧ At u 4 a_z4 (.inr (2, [.ref a_z2])) ∧ At u 5 a_z5 (.inr (7, [.ref a_z2, .int 0])) ∧ At u 6 a_z6 (.inl (q 4, 150, .inr (.inr (.inr (.inr (fun _ => none)))))) ∧ At u 7 a_z7 (.inl (q 5, 16, .inr (.inr (.inr (.inr (fun _ => none)))))) ∧ At u 8 a_z8 (.inl (q 0, 8, .inl (fun _ => 0))) ∧ At u 9 a_z9 (.inl (q 1, 4, .inr (.inl (fun _ => 0)))) ∧ At u 10 a_z10 (.inl (q 2, 4, .inr (.inr (.inl (fun _ => FP.fconst0))))) ∧ At u 11 a_z11 (.inl (q 3, 4, .inr (.inr (.inr (.inl (fun _ => FP.dconst0)))))) ∧ At u 12 a_z12 (.inl (q 6, 8, .inr (.inr (.inr (.inr (fun _ => none)))))) ∧ At u 13 a_z13 (.inl (q 0, 12, .inl (fun _ => 0))) ∧ At u 14 a_z14 (.inl (q 0, 200, .inl (fun _ => 0)))) (fun (u : wT) tt => rPo D (rA w sz) u tt) (rA w sz)) 14 434 (rA w sz) := by
  refine r_start (cc := cX8_init) (maxL := 1) (ret := none) (by decide) rfl (Nat.le_of_ble_eq_true rfl) ?_
  intro p e s m below meth c ls hC hr hlk hnm hsz hw hl
  have hx := hC.1
  have hb := hC.2.1
  have hl : lv_has ls 1 [(0, .ref (w.1 0))] := hl
  have k_z0 : At w 0 (w.1 0) (.inr (8, [.null, .null, .null])) := ⟨hl_i, rfl, hc_i⟩
  have n_z1 : Nl w 1 := h1
  have n_z2 : Nl w 2 := h2
  have n_z3 : Nl w 3 := h3
  have n_z4 : Nl w 4 := h4
  have n_z5 : Nl w 5 := h5
  have n_z6 : Nl w 6 := h6
  have n_z7 : Nl w 7 := h7
  have n_z8 : Nl w 8 := h8
  have n_z9 : Nl w 9 := h9
  have n_z10 : Nl w 10 := h10
  have n_z11 : Nl w 11 := h11
  have n_z12 : Nl w 12 := h12
  have n_z13 : Nl w 13 := h13
  have n_z14 : Nl w 14 := h14
  have kp : Kp w w (fun r => r = 0) (fun r => r = 1 ∨ r = 2 ∨ r = 3 ∨ r = 4 ∨ r = 5 ∨ r = 6 ∨ r = 7 ∨ r = 8 ∨ r = 9 ∨ r = 10 ∨ r = 11 ∨ r = 12 ∨ r = 13 ∨ r = 14) := Kp.rf
  refine lv_aload_n hx hb dX8_init_0 rfl (lv_at hl 0 rfl) ?_
  refine a_obj hC lk_X8_init_1 lki_X8_init_1 lkc_X8_init_1 hl.1 dX8_init_1 (Nat.le_of_ble_eq_true rfl) (Nat.le_of_ble_eq_true rfl) ?_
  refine lv_aload_n hx hb dX8_init_4 rfl (lv_at hl 0 rfl) ?_
  refine a_new hC hw rk1 in_X8_init_1 lk_X8_init_7 lki_X8_init_7 lkz_X8_init_7 1 n_z1 (fs := [.null, .null, .int 0, .int 0]) (by decide) (Nat.le_of_ble_eq_true rfl) (Nat.le_of_ble_eq_true rfl) dX8_init_5 (fun a_z1 W H hup hw => ?_)
  replace k_z0 := k_z0.m hup (by omega)
  have k_z1 := At.n hup
  replace n_z2 := n_z2.n hup (by omega)
  replace n_z3 := n_z3.n hup (by omega)
  replace n_z4 := n_z4.n hup (by omega)
  replace n_z5 := n_z5.n hup (by omega)
  replace n_z6 := n_z6.n hup (by omega)
  replace n_z7 := n_z7.n hup (by omega)
  replace n_z8 := n_z8.n hup (by omega)
  replace n_z9 := n_z9.n hup (by omega)
  replace n_z10 := n_z10.n hup (by omega)
  replace n_z11 := n_z11.n hup (by omega)
  replace n_z12 := n_z12.n hup (by omega)
  replace n_z13 := n_z13.n hup (by omega)
  replace n_z14 := n_z14.n hup (by omega)
  replace kp := kp.n hup (by omega) (by assumption)
  clear hup
  refine lv_dup hx hb dX8_init_8 rfl ?_
  refine r_kv hw (r_runI (rest := [.ref a_z1, .ref (w.1 0)]) hC hw (c_X1_init l W _  k_z1.1 k_z1.2.2 n_z6 n_z7) 0 gX8_init_X1_init rfl rfl rfl lkz_X8_init_9 lk_X8_init_9 lki_X8_init_9 rfl (by decide +kernel) ⟨Nat.le_of_ble_eq_true rfl, Nat.le_of_ble_eq_true rfl⟩ rfl hl.1 (by rw [k_z1.2.1]; rfl) (Nat.le_of_ble_eq_true rfl) dX8_init_9 ⟨Nat.le_of_ble_eq_true rfl, Nat.le_of_ble_eq_true rfl⟩) (fun W2 H locs hth hw => ?_)
  obtain ⟨kp2, a_z6, a_z7, m_z1, m_z6, m_z7⟩ := hth
  rw [k_z1.2.1] at m_z1
  replace k_z0 := k_z0.k kp2 (by first | omega | exact fun h => h)
  replace k_z1 := m_z1
  have k_z6 := m_z6
  have k_z7 := m_z7
  replace n_z2 := n_z2.k kp2 (by first | omega | exact fun h => h)
  replace n_z3 := n_z3.k kp2 (by first | omega | exact fun h => h)
  replace n_z4 := n_z4.k kp2 (by first | omega | exact fun h => h)
  replace n_z5 := n_z5.k kp2 (by first | omega | exact fun h => h)
  replace n_z8 := n_z8.k kp2 (by first | omega | exact fun h => h)
  replace n_z9 := n_z9.k kp2 (by first | omega | exact fun h => h)
  replace n_z10 := n_z10.k kp2 (by first | omega | exact fun h => h)
  replace n_z11 := n_z11.k kp2 (by first | omega | exact fun h => h)
  replace n_z12 := n_z12.k kp2 (by first | omega | exact fun h => h)
  replace n_z13 := n_z13.k kp2 (by first | omega | exact fun h => h)
  replace n_z14 := n_z14.k kp2 (by first | omega | exact fun h => h)
  replace kp := kp.t2 kp2 (fun r hr => by first | omega | exact False.elim hr) (fun r hr => by first | omega | exact False.elim hr) (fun r hr hn => by rcases hn with rfl | rfl | rfl | rfl | rfl | rfl | rfl | rfl | rfl | rfl | rfl | rfl | rfl | rfl <;> (first | exact h1 hr | exact h2 hr | exact h3 hr | exact h4 hr | exact h5 hr | exact h6 hr | exact h7 hr | exact h8 hr | exact h9 hr | exact h10 hr | exact h11 hr | exact h12 hr | exact h13 hr | exact h14 hr))
  clear kp2
  generalize W2 = W at *
  refine a_putF hC hw rk8 in_X8_init_8 k_z0 0 (by decide) lk_X8_init_10 rfl hnm rfl rfl rfl (Nat.le_of_ble_eq_true rfl) dX8_init_12 (fun W H locs hup hw => ?_)
  replace k_z1 := k_z1.v hup (by omega)
  replace k_z6 := k_z6.v hup (by omega)
  replace k_z7 := k_z7.v hup (by omega)
  replace k_z0 : At W 0 (w.1 0) (.inr (8, [.ref a_z1, .null, .null])) := k_z0.u hup
  replace n_z2 := n_z2.u hup
  replace n_z3 := n_z3.u hup
  replace n_z4 := n_z4.u hup
  replace n_z5 := n_z5.u hup
  replace n_z8 := n_z8.u hup
  replace n_z9 := n_z9.u hup
  replace n_z10 := n_z10.u hup
  replace n_z11 := n_z11.u hup
  replace n_z12 := n_z12.u hup
  replace n_z13 := n_z13.u hup
  replace n_z14 := n_z14.u hup
  replace kp := kp.u hup (by first | exact Or.inl (by omega) | exact Or.inr (by assumption))
  clear hup
  refine lv_aload_n hx hb dX8_init_15 rfl (lv_at hl 0 rfl) ?_
  refine a_new hC hw rk3 in_X8_init_3 lk_X8_init_16 lki_X8_init_16 lkz_X8_init_16 2 n_z2 (fs := [.null, .null, .null, .null, .null]) (by decide) (Nat.le_of_ble_eq_true rfl) (Nat.le_of_ble_eq_true rfl) dX8_init_16 (fun a_z2 W H hup hw => ?_)
  replace k_z0 := k_z0.m hup (by omega)
  replace k_z1 := k_z1.m hup (by omega)
  replace k_z6 := k_z6.m hup (by omega)
  replace k_z7 := k_z7.m hup (by omega)
  have k_z2 := At.n hup
  replace n_z3 := n_z3.n hup (by omega)
  replace n_z4 := n_z4.n hup (by omega)
  replace n_z5 := n_z5.n hup (by omega)
  replace n_z8 := n_z8.n hup (by omega)
  replace n_z9 := n_z9.n hup (by omega)
  replace n_z10 := n_z10.n hup (by omega)
  replace n_z11 := n_z11.n hup (by omega)
  replace n_z12 := n_z12.n hup (by omega)
  replace n_z13 := n_z13.n hup (by omega)
  replace n_z14 := n_z14.n hup (by omega)
  replace kp := kp.n hup (by omega) (by assumption)
  clear hup
  refine lv_dup hx hb dX8_init_19 rfl ?_
  refine r_kv hw (r_runI (rest := [.ref a_z2, .ref (w.1 0)]) hC hw (c_X3_init l W _  k_z2.1 k_z2.2.2 n_z8 n_z9 n_z10 n_z11 n_z12) 0 gX8_init_X3_init rfl rfl rfl lkz_X8_init_18 lk_X8_init_18 lki_X8_init_18 rfl (by decide +kernel) ⟨Nat.le_of_ble_eq_true rfl, Nat.le_of_ble_eq_true rfl⟩ rfl hl.1 (by rw [k_z2.2.1]; rfl) (Nat.le_of_ble_eq_true rfl) dX8_init_20 ⟨Nat.le_of_ble_eq_true rfl, Nat.le_of_ble_eq_true rfl⟩) (fun W2 H locs hth hw => ?_)
  obtain ⟨kp2, a_z8, a_z9, a_z10, a_z11, a_z12, m_z2, m_z8, m_z9, m_z10, m_z11, m_z12⟩ := hth
  rw [k_z2.2.1] at m_z2
  replace k_z0 := k_z0.k kp2 (by first | omega | exact fun h => h)
  replace k_z1 := k_z1.k kp2 (by first | omega | exact fun h => h)
  replace k_z6 := k_z6.k kp2 (by first | omega | exact fun h => h)
  replace k_z7 := k_z7.k kp2 (by first | omega | exact fun h => h)
  replace k_z2 := m_z2
  have k_z8 := m_z8
  have k_z9 := m_z9
  have k_z10 := m_z10
  have k_z11 := m_z11
  have k_z12 := m_z12
  replace n_z3 := n_z3.k kp2 (by first | omega | exact fun h => h)
  replace n_z4 := n_z4.k kp2 (by first | omega | exact fun h => h)
  replace n_z5 := n_z5.k kp2 (by first | omega | exact fun h => h)
  replace n_z13 := n_z13.k kp2 (by first | omega | exact fun h => h)
  replace n_z14 := n_z14.k kp2 (by first | omega | exact fun h => h)
  replace kp := kp.t2 kp2 (fun r hr => by first | omega | exact False.elim hr) (fun r hr => by first | omega | exact False.elim hr) (fun r hr hn => by rcases hn with rfl | rfl | rfl | rfl | rfl | rfl | rfl | rfl | rfl | rfl | rfl | rfl | rfl | rfl <;> (first | exact h1 hr | exact h2 hr | exact h3 hr | exact h4 hr | exact h5 hr | exact h6 hr | exact h7 hr | exact h8 hr | exact h9 hr | exact h10 hr | exact h11 hr | exact h12 hr | exact h13 hr | exact h14 hr))
  clear kp2
  generalize W2 = W at *
  refine a_putF hC hw rk8 in_X8_init_8 k_z0 1 (by decide) lk_X8_init_19 rfl hnm rfl rfl rfl (Nat.le_of_ble_eq_true rfl) dX8_init_23 (fun W H locs hup hw => ?_)
  replace k_z1 := k_z1.v hup (by omega)
  replace k_z6 := k_z6.v hup (by omega)
  replace k_z7 := k_z7.v hup (by omega)
  replace k_z2 := k_z2.v hup (by omega)
  replace k_z8 := k_z8.v hup (by omega)
  replace k_z9 := k_z9.v hup (by omega)
  replace k_z10 := k_z10.v hup (by omega)
  replace k_z11 := k_z11.v hup (by omega)
  replace k_z12 := k_z12.v hup (by omega)
  replace k_z0 : At W 0 (w.1 0) (.inr (8, [.ref a_z1, .ref a_z2, .null])) := k_z0.u hup
  replace n_z3 := n_z3.u hup
  replace n_z4 := n_z4.u hup
  replace n_z5 := n_z5.u hup
  replace n_z13 := n_z13.u hup
  replace n_z14 := n_z14.u hup
  replace kp := kp.u hup (by first | exact Or.inl (by omega) | exact Or.inr (by assumption))
  clear hup
  refine lv_aload_n hx hb dX8_init_26 rfl (lv_at hl 0 rfl) ?_
  refine a_new hC hw rk4 in_X8_init_4 lk_X8_init_23 lki_X8_init_23 lkz_X8_init_23 3 n_z3 (fs := [.null, .null, .null, .null, .null, .null, .int 0, .int 0, .int 0, .int 0, .int 0, .int 0, .int 0, .int 0, .int 0, .null]) (by decide) (Nat.le_of_ble_eq_true rfl) (Nat.le_of_ble_eq_true rfl) dX8_init_27 (fun a_z3 W H hup hw => ?_)
  replace k_z0 := k_z0.m hup (by omega)
  replace k_z1 := k_z1.m hup (by omega)
  replace k_z6 := k_z6.m hup (by omega)
  replace k_z7 := k_z7.m hup (by omega)
  replace k_z2 := k_z2.m hup (by omega)
  replace k_z8 := k_z8.m hup (by omega)
  replace k_z9 := k_z9.m hup (by omega)
  replace k_z10 := k_z10.m hup (by omega)
  replace k_z11 := k_z11.m hup (by omega)
  replace k_z12 := k_z12.m hup (by omega)
  have k_z3 := At.n hup
  replace n_z4 := n_z4.n hup (by omega)
  replace n_z5 := n_z5.n hup (by omega)
  replace n_z13 := n_z13.n hup (by omega)
  replace n_z14 := n_z14.n hup (by omega)
  replace kp := kp.n hup (by omega) (by assumption)
  clear hup
  refine lv_dup hx hb dX8_init_30 rfl ?_
  refine lv_aload_n hx hb dX8_init_31 rfl (lv_at hl 0 rfl) ?_
  refine a_get hC hw rk8 in_X8_init_8 k_z0 0 (by decide) lk_X8_init_10 (v := .ref a_z1) rfl dX8_init_32 ?_
  refine lv_aload_n hx hb dX8_init_35 rfl (lv_at hl 0 rfl) ?_
  refine a_get hC hw rk8 in_X8_init_8 k_z0 1 (by decide) lk_X8_init_19 (v := .ref a_z2) rfl dX8_init_36 ?_
  refine r_kv hw (r_runI (rest := [.ref a_z3, .ref (w.1 0)]) hC hw (c_X4_init l W _ a_z1 a_z2 k_z3.1 k_z3.2.2 n_z4 n_z5 n_z13 n_z14) 2 gX8_init_X4_init rfl rfl rfl lkz_X8_init_25 lk_X8_init_25 lki_X8_init_25 rfl (by decide +kernel) ⟨Nat.le_of_ble_eq_true rfl, Nat.le_of_ble_eq_true rfl⟩ rfl hl.1 (by rw [k_z3.2.1]; rfl) (Nat.le_of_ble_eq_true rfl) dX8_init_39 ⟨Nat.le_of_ble_eq_true rfl, Nat.le_of_ble_eq_true rfl⟩) (fun W2 H locs hth hw => ?_)
  obtain ⟨kp2, a_z4, a_z5, a_z13, a_z14, m_z3, m_z4, m_z5, m_z13, m_z14⟩ := hth
  rw [k_z3.2.1] at m_z3
  replace k_z0 := k_z0.k kp2 (by first | omega | exact fun h => h)
  replace k_z1 := k_z1.k kp2 (by first | omega | exact fun h => h)
  replace k_z6 := k_z6.k kp2 (by first | omega | exact fun h => h)
  replace k_z7 := k_z7.k kp2 (by first | omega | exact fun h => h)
  replace k_z2 := k_z2.k kp2 (by first | omega | exact fun h => h)
  replace k_z8 := k_z8.k kp2 (by first | omega | exact fun h => h)
  replace k_z9 := k_z9.k kp2 (by first | omega | exact fun h => h)
  replace k_z10 := k_z10.k kp2 (by first | omega | exact fun h => h)
  replace k_z11 := k_z11.k kp2 (by first | omega | exact fun h => h)
  replace k_z12 := k_z12.k kp2 (by first | omega | exact fun h => h)
  replace k_z3 := m_z3
  have k_z4 := m_z4
  have k_z5 := m_z5
  have k_z13 := m_z13
  have k_z14 := m_z14
  replace kp := kp.t2 kp2 (fun r hr => by first | omega | exact False.elim hr) (fun r hr => by first | omega | exact False.elim hr) (fun r hr hn => by rcases hn with rfl | rfl | rfl | rfl | rfl | rfl | rfl | rfl | rfl | rfl | rfl | rfl | rfl | rfl <;> (first | exact h1 hr | exact h2 hr | exact h3 hr | exact h4 hr | exact h5 hr | exact h6 hr | exact h7 hr | exact h8 hr | exact h9 hr | exact h10 hr | exact h11 hr | exact h12 hr | exact h13 hr | exact h14 hr))
  clear kp2
  generalize W2 = W at *
  refine a_putF hC hw rk8 in_X8_init_8 k_z0 2 (by decide) lk_X8_init_28 rfl hnm rfl rfl rfl (Nat.le_of_ble_eq_true rfl) dX8_init_42 (fun W H locs hup hw => ?_)
  replace k_z1 := k_z1.v hup (by omega)
  replace k_z6 := k_z6.v hup (by omega)
  replace k_z7 := k_z7.v hup (by omega)
  replace k_z2 := k_z2.v hup (by omega)
  replace k_z8 := k_z8.v hup (by omega)
  replace k_z9 := k_z9.v hup (by omega)
  replace k_z10 := k_z10.v hup (by omega)
  replace k_z11 := k_z11.v hup (by omega)
  replace k_z12 := k_z12.v hup (by omega)
  replace k_z3 := k_z3.v hup (by omega)
  replace k_z4 := k_z4.v hup (by omega)
  replace k_z5 := k_z5.v hup (by omega)
  replace k_z13 := k_z13.v hup (by omega)
  replace k_z14 := k_z14.v hup (by omega)
  replace k_z0 : At W 0 (w.1 0) (.inr (8, [.ref a_z1, .ref a_z2, .ref a_z3])) := k_z0.u hup
  replace kp := kp.u hup (by first | exact Or.inl (by omega) | exact Or.inr (by assumption))
  clear hup
  exact r_vret hC hr hlk hw W rfl ⟨kp, a_z1, a_z2, a_z3, a_z4, a_z5, a_z6, a_z7, a_z8, a_z9, a_z10, a_z11, a_z12, a_z13, a_z14, k_z0, k_z1, k_z2, k_z3, k_z4, k_z5, k_z6, k_z7, k_z8, k_z9, k_z10, k_z11, k_z12, k_z13, k_z14⟩ (Nat.le_of_ble_eq_true rfl) (Nat.le_of_ble_eq_true rfl) dX8_init_45

set_option maxHeartbeats 4000000 in
set_option maxRecDepth 100000 in
theorem c_X9_init (l : Launch) {D : va_G} {q : Nat → ClassId} (w : wT) (sz : Nat) (hl_i : w.2.1 0) (hc_i : w.2.2 0 = .inr (9, [.null, .int 0, .null, .int 0, .null, .null, .null, .null, .null, .null, .null, .null, .null, .null, .null, .null, .null, .int 0, .int 0, .int 0, .int 0, .null, .int 0, .null, .int 0, .int 0, .int 0, .int 0, .int 0, .int 0, .int 0, .int 0, .int 0, .int 0])) (h1 : ¬ w.2.1 1) (h2 : ¬ w.2.1 2) (h3 : ¬ w.2.1 3) (h4 : ¬ w.2.1 4) (h5 : ¬ w.2.1 5) (h6 : ¬ w.2.1 6) (h7 : ¬ w.2.1 7) (h8 : ¬ w.2.1 8) (h9 : ¬ w.2.1 9) (h10 : ¬ w.2.1 10) (h11 : ¬ w.2.1 11) (h12 : ¬ w.2.1 12) (h13 : ¬ w.2.1 13) (h14 : ¬ w.2.1 14) (h15 : ¬ w.2.1 15) (h16 : ¬ w.2.1 16) (h17 : ¬ w.2.1 17) : Met l yX9_init wsX9_init (rmc 1 12 17 3364) (va_Pc [.ref (w.1 0)] (rPre D q w sz)) (va_Qv (fun (u : wT) => Kp w u (fun r => r = 0) (fun r => r = 1 ∨ r = 2 ∨ r = 3 ∨ r = 4 ∨ r = 5 ∨ r = 6 ∨ r = 7 ∨ r = 8 ∨ r = 9 ∨ r = 10 ∨ r = 11 ∨ r = 12 ∨ r = 13 ∨ r = 14 ∨ r = 15 ∨ r = 16 ∨ r = 17) ∧ ∃ a_z1 a_z2 a_z3 a_z4 a_z5 a_z6 a_z7 a_z8 a_z9 a_z10 a_z11 a_z12 a_z13 a_z14 a_z15 a_z16 a_z17, At u 0 (w.1 0) (.inr (9, [.ref a_z1, .int 0, .ref a_z2, .int 0, .ref a_z3, .ref a_z4, .ref a_z5, .ref a_z6, .ref a_z7, .ref a_z8, .ref a_z9, .ref a_z10, .ref a_z11, .ref a_z12, .ref a_z13, .ref a_z14, .ref a_z15, .int 0, .int 0, .int 0, .int 0, .ref a_z16, .int 0, .ref a_z17, .int 0, .int 0, .int 0, .int (-1), .int 0, .int 0, .int 0, .int 0, .int 0, .int 0])) ∧ At u 1 a_z1 (.inl (q 0, 600, .inl (fun _ => 0))) ∧ At u 2 a_z2 (.inl (q 0, 64, .inl (fun _ => 0))) ∧ At u 3 a_z3 (.inl (q 0, 8, .inl (fun _ => 0))) ∧ At u 4 a_z4 (.inl (q 1, 4, .inr (.inl (fun _ => 0)))) ∧ At u 5 a_z5 (.inl (q 2, 4, .inr (.inr (.inl (fun _ => FP.fconst0))))) ∧ At u 6 a_z6 (.inl (q 3, 4, .inr (.inr (.inr (.inl (fun _ => FP.dconst0)))))) ∧ At u 7 a_z7 (.inl (q 0, 8, .inl (fun _ => 0))) ∧ At u 8 a_z8 (.inl (q 0, 60, .inl (fun _ => 0))) ∧ At u 9 a_z9 (.inl (q 0, 60, .inl (fun _ => 0))) ∧ At u 10 a_z10 (.inl (q 1, 720, .inr (.inl (fun _ => 0)))) ∧ At u 11 a_z11 (.inl (q 3, 720, .inr (.inr (.inr (.inl (fun _ => FP.dconst0)))))) ∧ At u 12 a_z12 (.inl (q 0, 720, .inl (fun _ => 0))) ∧ At u 13 a_z13 (.inl (q 0, 60, .inl (fun _ => 0))) ∧ At u 14 a_z14 (.inl (q 1, 60, .inr (.inl (fun _ => 0)))) ∧ At u 15 a_z15 (.inl (q 0, 60, .inl (fun _ => 0))) ∧ At u 16 a_z16 (.inl (q 0, 12, .inl (fun _ => 0))) ∧ At u 17 a_z17 (.inl (q 0, 200, .inl (fun _ => 0)))) (fun (u : wT) tt => rPo D (rA w sz) u tt) (rA w sz)) 17 3364 (rA w sz) := by
  refine r_start (cc := cX9_init) (maxL := 1) (ret := none) (by decide) rfl (Nat.le_of_ble_eq_true rfl) ?_
  intro p e s m below meth c ls hC hr hlk hnm hsz hw hl
  have hx := hC.1
  have hb := hC.2.1
  have hl : lv_has ls 1 [(0, .ref (w.1 0))] := hl
  have k_z0 : At w 0 (w.1 0) (.inr (9, [.null, .int 0, .null, .int 0, .null, .null, .null, .null, .null, .null, .null, .null, .null, .null, .null, .null, .null, .int 0, .int 0, .int 0, .int 0, .null, .int 0, .null, .int 0, .int 0, .int 0, .int 0, .int 0, .int 0, .int 0, .int 0, .int 0, .int 0])) := ⟨hl_i, rfl, hc_i⟩
  have n_z1 : Nl w 1 := h1
  have n_z2 : Nl w 2 := h2
  have n_z3 : Nl w 3 := h3
  have n_z4 : Nl w 4 := h4
  have n_z5 : Nl w 5 := h5
  have n_z6 : Nl w 6 := h6
  have n_z7 : Nl w 7 := h7
  have n_z8 : Nl w 8 := h8
  have n_z9 : Nl w 9 := h9
  have n_z10 : Nl w 10 := h10
  have n_z11 : Nl w 11 := h11
  have n_z12 : Nl w 12 := h12
  have n_z13 : Nl w 13 := h13
  have n_z14 : Nl w 14 := h14
  have n_z15 : Nl w 15 := h15
  have n_z16 : Nl w 16 := h16
  have n_z17 : Nl w 17 := h17
  have kp : Kp w w (fun r => r = 0) (fun r => r = 1 ∨ r = 2 ∨ r = 3 ∨ r = 4 ∨ r = 5 ∨ r = 6 ∨ r = 7 ∨ r = 8 ∨ r = 9 ∨ r = 10 ∨ r = 11 ∨ r = 12 ∨ r = 13 ∨ r = 14 ∨ r = 15 ∨ r = 16 ∨ r = 17) := Kp.rf
  refine lv_aload_n hx hb dX9_init_0 rfl (lv_at hl 0 rfl) ?_
  refine a_obj hC lk_X9_init_1 lki_X9_init_1 lkc_X9_init_1 hl.1 dX9_init_1 (Nat.le_of_ble_eq_true rfl) (Nat.le_of_ble_eq_true rfl) ?_
  refine lv_aload_n hx hb dX9_init_4 rfl (lv_at hl 0 rfl) ?_
  refine lv_sipush (v := 600) hx hb dX9_init_5 (by decide) ?_
  refine a_newa hC hw 0 lka_X9_init_int rfl rfl (fun _ h => by cases h) 1 n_z1 (N' := 600) (fun cA => cell_i0 cA _) (by decide) rfl (by decide) (Nat.le_of_ble_eq_true rfl) (Nat.le_of_ble_eq_true rfl) dX9_init_8 (fun a_z1 W H hup hw => ?_)
  replace k_z0 := k_z0.m hup (by omega)
  have k_z1 := At.n hup
  replace n_z2 := n_z2.n hup (by omega)
  replace n_z3 := n_z3.n hup (by omega)
  replace n_z4 := n_z4.n hup (by omega)
  replace n_z5 := n_z5.n hup (by omega)
  replace n_z6 := n_z6.n hup (by omega)
  replace n_z7 := n_z7.n hup (by omega)
  replace n_z8 := n_z8.n hup (by omega)
  replace n_z9 := n_z9.n hup (by omega)
  replace n_z10 := n_z10.n hup (by omega)
  replace n_z11 := n_z11.n hup (by omega)
  replace n_z12 := n_z12.n hup (by omega)
  replace n_z13 := n_z13.n hup (by omega)
  replace n_z14 := n_z14.n hup (by omega)
  replace n_z15 := n_z15.n hup (by omega)
  replace n_z16 := n_z16.n hup (by omega)
  replace n_z17 := n_z17.n hup (by omega)
  replace kp := kp.n hup (by omega) (by assumption)
  clear hup
  refine a_putF hC hw rk9 in_X9_init_9 k_z0 0 (by decide) lk_X9_init_7 rfl hnm rfl rfl rfl (Nat.le_of_ble_eq_true rfl) dX9_init_10 (fun W H locs hup hw => ?_)
  replace k_z1 := k_z1.v hup (by omega)
  replace k_z0 : At W 0 (w.1 0) (.inr (9, [.ref a_z1, .int 0, .null, .int 0, .null, .null, .null, .null, .null, .null, .null, .null, .null, .null, .null, .null, .null, .int 0, .int 0, .int 0, .int 0, .null, .int 0, .null, .int 0, .int 0, .int 0, .int 0, .int 0, .int 0, .int 0, .int 0, .int 0, .int 0])) := k_z0.u hup
  replace n_z2 := n_z2.u hup
  replace n_z3 := n_z3.u hup
  replace n_z4 := n_z4.u hup
  replace n_z5 := n_z5.u hup
  replace n_z6 := n_z6.u hup
  replace n_z7 := n_z7.u hup
  replace n_z8 := n_z8.u hup
  replace n_z9 := n_z9.u hup
  replace n_z10 := n_z10.u hup
  replace n_z11 := n_z11.u hup
  replace n_z12 := n_z12.u hup
  replace n_z13 := n_z13.u hup
  replace n_z14 := n_z14.u hup
  replace n_z15 := n_z15.u hup
  replace n_z16 := n_z16.u hup
  replace n_z17 := n_z17.u hup
  replace kp := kp.u hup (by first | exact Or.inl (by omega) | exact Or.inr (by assumption))
  clear hup
  refine lv_aload_n hx hb dX9_init_13 rfl (lv_at hl 0 rfl) ?_
  refine lv_bipush (v := 64) hx hb dX9_init_14 (by decide) ?_
  refine a_newa hC hw 0 lka_X9_init_int rfl rfl (fun _ h => by cases h) 2 n_z2 (N' := 64) (fun cA => cell_i0 cA _) (by decide) rfl (by decide) (Nat.le_of_ble_eq_true rfl) (Nat.le_of_ble_eq_true rfl) dX9_init_16 (fun a_z2 W H hup hw => ?_)
  replace k_z0 := k_z0.m hup (by omega)
  replace k_z1 := k_z1.m hup (by omega)
  have k_z2 := At.n hup
  replace n_z3 := n_z3.n hup (by omega)
  replace n_z4 := n_z4.n hup (by omega)
  replace n_z5 := n_z5.n hup (by omega)
  replace n_z6 := n_z6.n hup (by omega)
  replace n_z7 := n_z7.n hup (by omega)
  replace n_z8 := n_z8.n hup (by omega)
  replace n_z9 := n_z9.n hup (by omega)
  replace n_z10 := n_z10.n hup (by omega)
  replace n_z11 := n_z11.n hup (by omega)
  replace n_z12 := n_z12.n hup (by omega)
  replace n_z13 := n_z13.n hup (by omega)
  replace n_z14 := n_z14.n hup (by omega)
  replace n_z15 := n_z15.n hup (by omega)
  replace n_z16 := n_z16.n hup (by omega)
  replace n_z17 := n_z17.n hup (by omega)
  replace kp := kp.n hup (by omega) (by assumption)
  clear hup
  refine a_putF hC hw rk9 in_X9_init_9 k_z0 2 (by decide) lk_X9_init_13 rfl hnm rfl rfl rfl (Nat.le_of_ble_eq_true rfl) dX9_init_18 (fun W H locs hup hw => ?_)
  replace k_z1 := k_z1.v hup (by omega)
  replace k_z2 := k_z2.v hup (by omega)
  replace k_z0 : At W 0 (w.1 0) (.inr (9, [.ref a_z1, .int 0, .ref a_z2, .int 0, .null, .null, .null, .null, .null, .null, .null, .null, .null, .null, .null, .null, .null, .int 0, .int 0, .int 0, .int 0, .null, .int 0, .null, .int 0, .int 0, .int 0, .int 0, .int 0, .int 0, .int 0, .int 0, .int 0, .int 0])) := k_z0.u hup
  replace n_z3 := n_z3.u hup
  replace n_z4 := n_z4.u hup
  replace n_z5 := n_z5.u hup
  replace n_z6 := n_z6.u hup
  replace n_z7 := n_z7.u hup
  replace n_z8 := n_z8.u hup
  replace n_z9 := n_z9.u hup
  replace n_z10 := n_z10.u hup
  replace n_z11 := n_z11.u hup
  replace n_z12 := n_z12.u hup
  replace n_z13 := n_z13.u hup
  replace n_z14 := n_z14.u hup
  replace n_z15 := n_z15.u hup
  replace n_z16 := n_z16.u hup
  replace n_z17 := n_z17.u hup
  replace kp := kp.u hup (by first | exact Or.inl (by omega) | exact Or.inr (by assumption))
  clear hup
  refine lv_aload_n hx hb dX9_init_21 rfl (lv_at hl 0 rfl) ?_
  refine lv_bipush (v := 8) hx hb dX9_init_22 (by decide) ?_
  refine a_newa hC hw 0 lka_X9_init_int rfl rfl (fun _ h => by cases h) 3 n_z3 (N' := 8) (fun cA => cell_i0 cA _) (by decide) rfl (by decide) (Nat.le_of_ble_eq_true rfl) (Nat.le_of_ble_eq_true rfl) dX9_init_24 (fun a_z3 W H hup hw => ?_)
  replace k_z0 := k_z0.m hup (by omega)
  replace k_z1 := k_z1.m hup (by omega)
  replace k_z2 := k_z2.m hup (by omega)
  have k_z3 := At.n hup
  replace n_z4 := n_z4.n hup (by omega)
  replace n_z5 := n_z5.n hup (by omega)
  replace n_z6 := n_z6.n hup (by omega)
  replace n_z7 := n_z7.n hup (by omega)
  replace n_z8 := n_z8.n hup (by omega)
  replace n_z9 := n_z9.n hup (by omega)
  replace n_z10 := n_z10.n hup (by omega)
  replace n_z11 := n_z11.n hup (by omega)
  replace n_z12 := n_z12.n hup (by omega)
  replace n_z13 := n_z13.n hup (by omega)
  replace n_z14 := n_z14.n hup (by omega)
  replace n_z15 := n_z15.n hup (by omega)
  replace n_z16 := n_z16.n hup (by omega)
  replace n_z17 := n_z17.n hup (by omega)
  replace kp := kp.n hup (by omega) (by assumption)
  clear hup
  refine a_putF hC hw rk9 in_X9_init_9 k_z0 4 (by decide) lk_X9_init_16 rfl hnm rfl rfl rfl (Nat.le_of_ble_eq_true rfl) dX9_init_26 (fun W H locs hup hw => ?_)
  replace k_z1 := k_z1.v hup (by omega)
  replace k_z2 := k_z2.v hup (by omega)
  replace k_z3 := k_z3.v hup (by omega)
  replace k_z0 : At W 0 (w.1 0) (.inr (9, [.ref a_z1, .int 0, .ref a_z2, .int 0, .ref a_z3, .null, .null, .null, .null, .null, .null, .null, .null, .null, .null, .null, .null, .int 0, .int 0, .int 0, .int 0, .null, .int 0, .null, .int 0, .int 0, .int 0, .int 0, .int 0, .int 0, .int 0, .int 0, .int 0, .int 0])) := k_z0.u hup
  replace n_z4 := n_z4.u hup
  replace n_z5 := n_z5.u hup
  replace n_z6 := n_z6.u hup
  replace n_z7 := n_z7.u hup
  replace n_z8 := n_z8.u hup
  replace n_z9 := n_z9.u hup
  replace n_z10 := n_z10.u hup
  replace n_z11 := n_z11.u hup
  replace n_z12 := n_z12.u hup
  replace n_z13 := n_z13.u hup
  replace n_z14 := n_z14.u hup
  replace n_z15 := n_z15.u hup
  replace n_z16 := n_z16.u hup
  replace n_z17 := n_z17.u hup
  replace kp := kp.u hup (by first | exact Or.inl (by omega) | exact Or.inr (by assumption))
  clear hup
  refine lv_aload_n hx hb dX9_init_29 rfl (lv_at hl 0 rfl) ?_
  refine lv_iconst (v := 4) hx hb dX9_init_30 (by decide) ?_
  refine a_newa hC hw 1 lka_X9_init_long rfl rfl (fun _ h => by cases h) 4 n_z4 (N' := 4) (fun cA => cell_j0 cA _) (by decide) rfl (by decide) (Nat.le_of_ble_eq_true rfl) (Nat.le_of_ble_eq_true rfl) dX9_init_31 (fun a_z4 W H hup hw => ?_)
  replace k_z0 := k_z0.m hup (by omega)
  replace k_z1 := k_z1.m hup (by omega)
  replace k_z2 := k_z2.m hup (by omega)
  replace k_z3 := k_z3.m hup (by omega)
  have k_z4 := At.n hup
  replace n_z5 := n_z5.n hup (by omega)
  replace n_z6 := n_z6.n hup (by omega)
  replace n_z7 := n_z7.n hup (by omega)
  replace n_z8 := n_z8.n hup (by omega)
  replace n_z9 := n_z9.n hup (by omega)
  replace n_z10 := n_z10.n hup (by omega)
  replace n_z11 := n_z11.n hup (by omega)
  replace n_z12 := n_z12.n hup (by omega)
  replace n_z13 := n_z13.n hup (by omega)
  replace n_z14 := n_z14.n hup (by omega)
  replace n_z15 := n_z15.n hup (by omega)
  replace n_z16 := n_z16.n hup (by omega)
  replace n_z17 := n_z17.n hup (by omega)
  replace kp := kp.n hup (by omega) (by assumption)
  clear hup
  refine a_putF hC hw rk9 in_X9_init_9 k_z0 5 (by decide) lk_X9_init_19 rfl hnm rfl rfl rfl (Nat.le_of_ble_eq_true rfl) dX9_init_33 (fun W H locs hup hw => ?_)
  replace k_z1 := k_z1.v hup (by omega)
  replace k_z2 := k_z2.v hup (by omega)
  replace k_z3 := k_z3.v hup (by omega)
  replace k_z4 := k_z4.v hup (by omega)
  replace k_z0 : At W 0 (w.1 0) (.inr (9, [.ref a_z1, .int 0, .ref a_z2, .int 0, .ref a_z3, .ref a_z4, .null, .null, .null, .null, .null, .null, .null, .null, .null, .null, .null, .int 0, .int 0, .int 0, .int 0, .null, .int 0, .null, .int 0, .int 0, .int 0, .int 0, .int 0, .int 0, .int 0, .int 0, .int 0, .int 0])) := k_z0.u hup
  replace n_z5 := n_z5.u hup
  replace n_z6 := n_z6.u hup
  replace n_z7 := n_z7.u hup
  replace n_z8 := n_z8.u hup
  replace n_z9 := n_z9.u hup
  replace n_z10 := n_z10.u hup
  replace n_z11 := n_z11.u hup
  replace n_z12 := n_z12.u hup
  replace n_z13 := n_z13.u hup
  replace n_z14 := n_z14.u hup
  replace n_z15 := n_z15.u hup
  replace n_z16 := n_z16.u hup
  replace n_z17 := n_z17.u hup
  replace kp := kp.u hup (by first | exact Or.inl (by omega) | exact Or.inr (by assumption))
  clear hup
  refine lv_aload_n hx hb dX9_init_36 rfl (lv_at hl 0 rfl) ?_
  refine lv_iconst (v := 4) hx hb dX9_init_37 (by decide) ?_
  refine a_newa hC hw 2 lka_X9_init_float rfl rfl (fun _ h => by cases h) 5 n_z5 (N' := 4) (fun cA => cell_f0 cA _) (by decide) rfl (by decide) (Nat.le_of_ble_eq_true rfl) (Nat.le_of_ble_eq_true rfl) dX9_init_38 (fun a_z5 W H hup hw => ?_)
  replace k_z0 := k_z0.m hup (by omega)
  replace k_z1 := k_z1.m hup (by omega)
  replace k_z2 := k_z2.m hup (by omega)
  replace k_z3 := k_z3.m hup (by omega)
  replace k_z4 := k_z4.m hup (by omega)
  have k_z5 := At.n hup
  replace n_z6 := n_z6.n hup (by omega)
  replace n_z7 := n_z7.n hup (by omega)
  replace n_z8 := n_z8.n hup (by omega)
  replace n_z9 := n_z9.n hup (by omega)
  replace n_z10 := n_z10.n hup (by omega)
  replace n_z11 := n_z11.n hup (by omega)
  replace n_z12 := n_z12.n hup (by omega)
  replace n_z13 := n_z13.n hup (by omega)
  replace n_z14 := n_z14.n hup (by omega)
  replace n_z15 := n_z15.n hup (by omega)
  replace n_z16 := n_z16.n hup (by omega)
  replace n_z17 := n_z17.n hup (by omega)
  replace kp := kp.n hup (by omega) (by assumption)
  clear hup
  refine a_putF hC hw rk9 in_X9_init_9 k_z0 6 (by decide) lk_X9_init_23 rfl hnm rfl rfl rfl (Nat.le_of_ble_eq_true rfl) dX9_init_40 (fun W H locs hup hw => ?_)
  replace k_z1 := k_z1.v hup (by omega)
  replace k_z2 := k_z2.v hup (by omega)
  replace k_z3 := k_z3.v hup (by omega)
  replace k_z4 := k_z4.v hup (by omega)
  replace k_z5 := k_z5.v hup (by omega)
  replace k_z0 : At W 0 (w.1 0) (.inr (9, [.ref a_z1, .int 0, .ref a_z2, .int 0, .ref a_z3, .ref a_z4, .ref a_z5, .null, .null, .null, .null, .null, .null, .null, .null, .null, .null, .int 0, .int 0, .int 0, .int 0, .null, .int 0, .null, .int 0, .int 0, .int 0, .int 0, .int 0, .int 0, .int 0, .int 0, .int 0, .int 0])) := k_z0.u hup
  replace n_z6 := n_z6.u hup
  replace n_z7 := n_z7.u hup
  replace n_z8 := n_z8.u hup
  replace n_z9 := n_z9.u hup
  replace n_z10 := n_z10.u hup
  replace n_z11 := n_z11.u hup
  replace n_z12 := n_z12.u hup
  replace n_z13 := n_z13.u hup
  replace n_z14 := n_z14.u hup
  replace n_z15 := n_z15.u hup
  replace n_z16 := n_z16.u hup
  replace n_z17 := n_z17.u hup
  replace kp := kp.u hup (by first | exact Or.inl (by omega) | exact Or.inr (by assumption))
  clear hup
  refine lv_aload_n hx hb dX9_init_43 rfl (lv_at hl 0 rfl) ?_
  refine lv_iconst (v := 4) hx hb dX9_init_44 (by decide) ?_
  refine a_newa hC hw 3 lka_X9_init_double rfl rfl (fun _ h => by cases h) 6 n_z6 (N' := 4) (fun cA => cell_d0 cA _) (by decide) rfl (by decide) (Nat.le_of_ble_eq_true rfl) (Nat.le_of_ble_eq_true rfl) dX9_init_45 (fun a_z6 W H hup hw => ?_)
  replace k_z0 := k_z0.m hup (by omega)
  replace k_z1 := k_z1.m hup (by omega)
  replace k_z2 := k_z2.m hup (by omega)
  replace k_z3 := k_z3.m hup (by omega)
  replace k_z4 := k_z4.m hup (by omega)
  replace k_z5 := k_z5.m hup (by omega)
  have k_z6 := At.n hup
  replace n_z7 := n_z7.n hup (by omega)
  replace n_z8 := n_z8.n hup (by omega)
  replace n_z9 := n_z9.n hup (by omega)
  replace n_z10 := n_z10.n hup (by omega)
  replace n_z11 := n_z11.n hup (by omega)
  replace n_z12 := n_z12.n hup (by omega)
  replace n_z13 := n_z13.n hup (by omega)
  replace n_z14 := n_z14.n hup (by omega)
  replace n_z15 := n_z15.n hup (by omega)
  replace n_z16 := n_z16.n hup (by omega)
  replace n_z17 := n_z17.n hup (by omega)
  replace kp := kp.n hup (by omega) (by assumption)
  clear hup
  refine a_putF hC hw rk9 in_X9_init_9 k_z0 7 (by decide) lk_X9_init_27 rfl hnm rfl rfl rfl (Nat.le_of_ble_eq_true rfl) dX9_init_47 (fun W H locs hup hw => ?_)
  replace k_z1 := k_z1.v hup (by omega)
  replace k_z2 := k_z2.v hup (by omega)
  replace k_z3 := k_z3.v hup (by omega)
  replace k_z4 := k_z4.v hup (by omega)
  replace k_z5 := k_z5.v hup (by omega)
  replace k_z6 := k_z6.v hup (by omega)
  replace k_z0 : At W 0 (w.1 0) (.inr (9, [.ref a_z1, .int 0, .ref a_z2, .int 0, .ref a_z3, .ref a_z4, .ref a_z5, .ref a_z6, .null, .null, .null, .null, .null, .null, .null, .null, .null, .int 0, .int 0, .int 0, .int 0, .null, .int 0, .null, .int 0, .int 0, .int 0, .int 0, .int 0, .int 0, .int 0, .int 0, .int 0, .int 0])) := k_z0.u hup
  replace n_z7 := n_z7.u hup
  replace n_z8 := n_z8.u hup
  replace n_z9 := n_z9.u hup
  replace n_z10 := n_z10.u hup
  replace n_z11 := n_z11.u hup
  replace n_z12 := n_z12.u hup
  replace n_z13 := n_z13.u hup
  replace n_z14 := n_z14.u hup
  replace n_z15 := n_z15.u hup
  replace n_z16 := n_z16.u hup
  replace n_z17 := n_z17.u hup
  replace kp := kp.u hup (by first | exact Or.inl (by omega) | exact Or.inr (by assumption))
  clear hup
  refine lv_aload_n hx hb dX9_init_50 rfl (lv_at hl 0 rfl) ?_
  refine lv_bipush (v := 8) hx hb dX9_init_51 (by decide) ?_
  refine a_newa hC hw 0 lka_X9_init_int rfl rfl (fun _ h => by cases h) 7 n_z7 (N' := 8) (fun cA => cell_i0 cA _) (by decide) rfl (by decide) (Nat.le_of_ble_eq_true rfl) (Nat.le_of_ble_eq_true rfl) dX9_init_53 (fun a_z7 W H hup hw => ?_)
  replace k_z0 := k_z0.m hup (by omega)
  replace k_z1 := k_z1.m hup (by omega)
  replace k_z2 := k_z2.m hup (by omega)
  replace k_z3 := k_z3.m hup (by omega)
  replace k_z4 := k_z4.m hup (by omega)
  replace k_z5 := k_z5.m hup (by omega)
  replace k_z6 := k_z6.m hup (by omega)
  have k_z7 := At.n hup
  replace n_z8 := n_z8.n hup (by omega)
  replace n_z9 := n_z9.n hup (by omega)
  replace n_z10 := n_z10.n hup (by omega)
  replace n_z11 := n_z11.n hup (by omega)
  replace n_z12 := n_z12.n hup (by omega)
  replace n_z13 := n_z13.n hup (by omega)
  replace n_z14 := n_z14.n hup (by omega)
  replace n_z15 := n_z15.n hup (by omega)
  replace n_z16 := n_z16.n hup (by omega)
  replace n_z17 := n_z17.n hup (by omega)
  replace kp := kp.n hup (by omega) (by assumption)
  clear hup
  refine a_putF hC hw rk9 in_X9_init_9 k_z0 8 (by decide) lk_X9_init_31 rfl hnm rfl rfl rfl (Nat.le_of_ble_eq_true rfl) dX9_init_55 (fun W H locs hup hw => ?_)
  replace k_z1 := k_z1.v hup (by omega)
  replace k_z2 := k_z2.v hup (by omega)
  replace k_z3 := k_z3.v hup (by omega)
  replace k_z4 := k_z4.v hup (by omega)
  replace k_z5 := k_z5.v hup (by omega)
  replace k_z6 := k_z6.v hup (by omega)
  replace k_z7 := k_z7.v hup (by omega)
  replace k_z0 : At W 0 (w.1 0) (.inr (9, [.ref a_z1, .int 0, .ref a_z2, .int 0, .ref a_z3, .ref a_z4, .ref a_z5, .ref a_z6, .ref a_z7, .null, .null, .null, .null, .null, .null, .null, .null, .int 0, .int 0, .int 0, .int 0, .null, .int 0, .null, .int 0, .int 0, .int 0, .int 0, .int 0, .int 0, .int 0, .int 0, .int 0, .int 0])) := k_z0.u hup
  replace n_z8 := n_z8.u hup
  replace n_z9 := n_z9.u hup
  replace n_z10 := n_z10.u hup
  replace n_z11 := n_z11.u hup
  replace n_z12 := n_z12.u hup
  replace n_z13 := n_z13.u hup
  replace n_z14 := n_z14.u hup
  replace n_z15 := n_z15.u hup
  replace n_z16 := n_z16.u hup
  replace n_z17 := n_z17.u hup
  replace kp := kp.u hup (by first | exact Or.inl (by omega) | exact Or.inr (by assumption))
  clear hup
  refine lv_aload_n hx hb dX9_init_58 rfl (lv_at hl 0 rfl) ?_
  refine lv_bipush (v := 60) hx hb dX9_init_59 (by decide) ?_
  refine a_newa hC hw 0 lka_X9_init_int rfl rfl (fun _ h => by cases h) 8 n_z8 (N' := 60) (fun cA => cell_i0 cA _) (by decide) rfl (by decide) (Nat.le_of_ble_eq_true rfl) (Nat.le_of_ble_eq_true rfl) dX9_init_61 (fun a_z8 W H hup hw => ?_)
  replace k_z0 := k_z0.m hup (by omega)
  replace k_z1 := k_z1.m hup (by omega)
  replace k_z2 := k_z2.m hup (by omega)
  replace k_z3 := k_z3.m hup (by omega)
  replace k_z4 := k_z4.m hup (by omega)
  replace k_z5 := k_z5.m hup (by omega)
  replace k_z6 := k_z6.m hup (by omega)
  replace k_z7 := k_z7.m hup (by omega)
  have k_z8 := At.n hup
  replace n_z9 := n_z9.n hup (by omega)
  replace n_z10 := n_z10.n hup (by omega)
  replace n_z11 := n_z11.n hup (by omega)
  replace n_z12 := n_z12.n hup (by omega)
  replace n_z13 := n_z13.n hup (by omega)
  replace n_z14 := n_z14.n hup (by omega)
  replace n_z15 := n_z15.n hup (by omega)
  replace n_z16 := n_z16.n hup (by omega)
  replace n_z17 := n_z17.n hup (by omega)
  replace kp := kp.n hup (by omega) (by assumption)
  clear hup
  refine a_putF hC hw rk9 in_X9_init_9 k_z0 9 (by decide) lk_X9_init_34 rfl hnm rfl rfl rfl (Nat.le_of_ble_eq_true rfl) dX9_init_63 (fun W H locs hup hw => ?_)
  replace k_z1 := k_z1.v hup (by omega)
  replace k_z2 := k_z2.v hup (by omega)
  replace k_z3 := k_z3.v hup (by omega)
  replace k_z4 := k_z4.v hup (by omega)
  replace k_z5 := k_z5.v hup (by omega)
  replace k_z6 := k_z6.v hup (by omega)
  replace k_z7 := k_z7.v hup (by omega)
  replace k_z8 := k_z8.v hup (by omega)
  replace k_z0 : At W 0 (w.1 0) (.inr (9, [.ref a_z1, .int 0, .ref a_z2, .int 0, .ref a_z3, .ref a_z4, .ref a_z5, .ref a_z6, .ref a_z7, .ref a_z8, .null, .null, .null, .null, .null, .null, .null, .int 0, .int 0, .int 0, .int 0, .null, .int 0, .null, .int 0, .int 0, .int 0, .int 0, .int 0, .int 0, .int 0, .int 0, .int 0, .int 0])) := k_z0.u hup
  replace n_z9 := n_z9.u hup
  replace n_z10 := n_z10.u hup
  replace n_z11 := n_z11.u hup
  replace n_z12 := n_z12.u hup
  replace n_z13 := n_z13.u hup
  replace n_z14 := n_z14.u hup
  replace n_z15 := n_z15.u hup
  replace n_z16 := n_z16.u hup
  replace n_z17 := n_z17.u hup
  replace kp := kp.u hup (by first | exact Or.inl (by omega) | exact Or.inr (by assumption))
  clear hup
  refine lv_aload_n hx hb dX9_init_66 rfl (lv_at hl 0 rfl) ?_
  refine lv_bipush (v := 60) hx hb dX9_init_67 (by decide) ?_
  refine a_newa hC hw 0 lka_X9_init_int rfl rfl (fun _ h => by cases h) 9 n_z9 (N' := 60) (fun cA => cell_i0 cA _) (by decide) rfl (by decide) (Nat.le_of_ble_eq_true rfl) (Nat.le_of_ble_eq_true rfl) dX9_init_69 (fun a_z9 W H hup hw => ?_)
  replace k_z0 := k_z0.m hup (by omega)
  replace k_z1 := k_z1.m hup (by omega)
  replace k_z2 := k_z2.m hup (by omega)
  replace k_z3 := k_z3.m hup (by omega)
  replace k_z4 := k_z4.m hup (by omega)
  replace k_z5 := k_z5.m hup (by omega)
  replace k_z6 := k_z6.m hup (by omega)
  replace k_z7 := k_z7.m hup (by omega)
  replace k_z8 := k_z8.m hup (by omega)
  have k_z9 := At.n hup
  replace n_z10 := n_z10.n hup (by omega)
  replace n_z11 := n_z11.n hup (by omega)
  replace n_z12 := n_z12.n hup (by omega)
  replace n_z13 := n_z13.n hup (by omega)
  replace n_z14 := n_z14.n hup (by omega)
  replace n_z15 := n_z15.n hup (by omega)
  replace n_z16 := n_z16.n hup (by omega)
  replace n_z17 := n_z17.n hup (by omega)
  replace kp := kp.n hup (by omega) (by assumption)
  clear hup
  refine a_putF hC hw rk9 in_X9_init_9 k_z0 10 (by decide) lk_X9_init_37 rfl hnm rfl rfl rfl (Nat.le_of_ble_eq_true rfl) dX9_init_71 (fun W H locs hup hw => ?_)
  replace k_z1 := k_z1.v hup (by omega)
  replace k_z2 := k_z2.v hup (by omega)
  replace k_z3 := k_z3.v hup (by omega)
  replace k_z4 := k_z4.v hup (by omega)
  replace k_z5 := k_z5.v hup (by omega)
  replace k_z6 := k_z6.v hup (by omega)
  replace k_z7 := k_z7.v hup (by omega)
  replace k_z8 := k_z8.v hup (by omega)
  replace k_z9 := k_z9.v hup (by omega)
  replace k_z0 : At W 0 (w.1 0) (.inr (9, [.ref a_z1, .int 0, .ref a_z2, .int 0, .ref a_z3, .ref a_z4, .ref a_z5, .ref a_z6, .ref a_z7, .ref a_z8, .ref a_z9, .null, .null, .null, .null, .null, .null, .int 0, .int 0, .int 0, .int 0, .null, .int 0, .null, .int 0, .int 0, .int 0, .int 0, .int 0, .int 0, .int 0, .int 0, .int 0, .int 0])) := k_z0.u hup
  replace n_z10 := n_z10.u hup
  replace n_z11 := n_z11.u hup
  replace n_z12 := n_z12.u hup
  replace n_z13 := n_z13.u hup
  replace n_z14 := n_z14.u hup
  replace n_z15 := n_z15.u hup
  replace n_z16 := n_z16.u hup
  replace n_z17 := n_z17.u hup
  replace kp := kp.u hup (by first | exact Or.inl (by omega) | exact Or.inr (by assumption))
  clear hup
  refine lv_aload_n hx hb dX9_init_74 rfl (lv_at hl 0 rfl) ?_
  refine lv_sipush (v := 720) hx hb dX9_init_75 (by decide) ?_
  refine a_newa hC hw 1 lka_X9_init_long rfl rfl (fun _ h => by cases h) 10 n_z10 (N' := 720) (fun cA => cell_j0 cA _) (by decide) rfl (by decide) (Nat.le_of_ble_eq_true rfl) (Nat.le_of_ble_eq_true rfl) dX9_init_78 (fun a_z10 W H hup hw => ?_)
  replace k_z0 := k_z0.m hup (by omega)
  replace k_z1 := k_z1.m hup (by omega)
  replace k_z2 := k_z2.m hup (by omega)
  replace k_z3 := k_z3.m hup (by omega)
  replace k_z4 := k_z4.m hup (by omega)
  replace k_z5 := k_z5.m hup (by omega)
  replace k_z6 := k_z6.m hup (by omega)
  replace k_z7 := k_z7.m hup (by omega)
  replace k_z8 := k_z8.m hup (by omega)
  replace k_z9 := k_z9.m hup (by omega)
  have k_z10 := At.n hup
  replace n_z11 := n_z11.n hup (by omega)
  replace n_z12 := n_z12.n hup (by omega)
  replace n_z13 := n_z13.n hup (by omega)
  replace n_z14 := n_z14.n hup (by omega)
  replace n_z15 := n_z15.n hup (by omega)
  replace n_z16 := n_z16.n hup (by omega)
  replace n_z17 := n_z17.n hup (by omega)
  replace kp := kp.n hup (by omega) (by assumption)
  clear hup
  refine a_putF hC hw rk9 in_X9_init_9 k_z0 11 (by decide) lk_X9_init_40 rfl hnm rfl rfl rfl (Nat.le_of_ble_eq_true rfl) dX9_init_80 (fun W H locs hup hw => ?_)
  replace k_z1 := k_z1.v hup (by omega)
  replace k_z2 := k_z2.v hup (by omega)
  replace k_z3 := k_z3.v hup (by omega)
  replace k_z4 := k_z4.v hup (by omega)
  replace k_z5 := k_z5.v hup (by omega)
  replace k_z6 := k_z6.v hup (by omega)
  replace k_z7 := k_z7.v hup (by omega)
  replace k_z8 := k_z8.v hup (by omega)
  replace k_z9 := k_z9.v hup (by omega)
  replace k_z10 := k_z10.v hup (by omega)
  replace k_z0 : At W 0 (w.1 0) (.inr (9, [.ref a_z1, .int 0, .ref a_z2, .int 0, .ref a_z3, .ref a_z4, .ref a_z5, .ref a_z6, .ref a_z7, .ref a_z8, .ref a_z9, .ref a_z10, .null, .null, .null, .null, .null, .int 0, .int 0, .int 0, .int 0, .null, .int 0, .null, .int 0, .int 0, .int 0, .int 0, .int 0, .int 0, .int 0, .int 0, .int 0, .int 0])) := k_z0.u hup
  replace n_z11 := n_z11.u hup
  replace n_z12 := n_z12.u hup
  replace n_z13 := n_z13.u hup
  replace n_z14 := n_z14.u hup
  replace n_z15 := n_z15.u hup
  replace n_z16 := n_z16.u hup
  replace n_z17 := n_z17.u hup
  replace kp := kp.u hup (by first | exact Or.inl (by omega) | exact Or.inr (by assumption))
  clear hup
  refine lv_aload_n hx hb dX9_init_83 rfl (lv_at hl 0 rfl) ?_
  refine lv_sipush (v := 720) hx hb dX9_init_84 (by decide) ?_
  refine a_newa hC hw 3 lka_X9_init_double rfl rfl (fun _ h => by cases h) 11 n_z11 (N' := 720) (fun cA => cell_d0 cA _) (by decide) rfl (by decide) (Nat.le_of_ble_eq_true rfl) (Nat.le_of_ble_eq_true rfl) dX9_init_87 (fun a_z11 W H hup hw => ?_)
  replace k_z0 := k_z0.m hup (by omega)
  replace k_z1 := k_z1.m hup (by omega)
  replace k_z2 := k_z2.m hup (by omega)
  replace k_z3 := k_z3.m hup (by omega)
  replace k_z4 := k_z4.m hup (by omega)
  replace k_z5 := k_z5.m hup (by omega)
  replace k_z6 := k_z6.m hup (by omega)
  replace k_z7 := k_z7.m hup (by omega)
  replace k_z8 := k_z8.m hup (by omega)
  replace k_z9 := k_z9.m hup (by omega)
  replace k_z10 := k_z10.m hup (by omega)
  have k_z11 := At.n hup
  replace n_z12 := n_z12.n hup (by omega)
  replace n_z13 := n_z13.n hup (by omega)
  replace n_z14 := n_z14.n hup (by omega)
  replace n_z15 := n_z15.n hup (by omega)
  replace n_z16 := n_z16.n hup (by omega)
  replace n_z17 := n_z17.n hup (by omega)
  replace kp := kp.n hup (by omega) (by assumption)
  clear hup
  refine a_putF hC hw rk9 in_X9_init_9 k_z0 12 (by decide) lk_X9_init_43 rfl hnm rfl rfl rfl (Nat.le_of_ble_eq_true rfl) dX9_init_89 (fun W H locs hup hw => ?_)
  replace k_z1 := k_z1.v hup (by omega)
  replace k_z2 := k_z2.v hup (by omega)
  replace k_z3 := k_z3.v hup (by omega)
  replace k_z4 := k_z4.v hup (by omega)
  replace k_z5 := k_z5.v hup (by omega)
  replace k_z6 := k_z6.v hup (by omega)
  replace k_z7 := k_z7.v hup (by omega)
  replace k_z8 := k_z8.v hup (by omega)
  replace k_z9 := k_z9.v hup (by omega)
  replace k_z10 := k_z10.v hup (by omega)
  replace k_z11 := k_z11.v hup (by omega)
  replace k_z0 : At W 0 (w.1 0) (.inr (9, [.ref a_z1, .int 0, .ref a_z2, .int 0, .ref a_z3, .ref a_z4, .ref a_z5, .ref a_z6, .ref a_z7, .ref a_z8, .ref a_z9, .ref a_z10, .ref a_z11, .null, .null, .null, .null, .int 0, .int 0, .int 0, .int 0, .null, .int 0, .null, .int 0, .int 0, .int 0, .int 0, .int 0, .int 0, .int 0, .int 0, .int 0, .int 0])) := k_z0.u hup
  replace n_z12 := n_z12.u hup
  replace n_z13 := n_z13.u hup
  replace n_z14 := n_z14.u hup
  replace n_z15 := n_z15.u hup
  replace n_z16 := n_z16.u hup
  replace n_z17 := n_z17.u hup
  replace kp := kp.u hup (by first | exact Or.inl (by omega) | exact Or.inr (by assumption))
  clear hup
  refine lv_aload_n hx hb dX9_init_92 rfl (lv_at hl 0 rfl) ?_
  refine lv_sipush (v := 720) hx hb dX9_init_93 (by decide) ?_
  refine a_newa hC hw 0 lka_X9_init_int rfl rfl (fun _ h => by cases h) 12 n_z12 (N' := 720) (fun cA => cell_i0 cA _) (by decide) rfl (by decide) (Nat.le_of_ble_eq_true rfl) (Nat.le_of_ble_eq_true rfl) dX9_init_96 (fun a_z12 W H hup hw => ?_)
  replace k_z0 := k_z0.m hup (by omega)
  replace k_z1 := k_z1.m hup (by omega)
  replace k_z2 := k_z2.m hup (by omega)
  replace k_z3 := k_z3.m hup (by omega)
  replace k_z4 := k_z4.m hup (by omega)
  replace k_z5 := k_z5.m hup (by omega)
  replace k_z6 := k_z6.m hup (by omega)
  replace k_z7 := k_z7.m hup (by omega)
  replace k_z8 := k_z8.m hup (by omega)
  replace k_z9 := k_z9.m hup (by omega)
  replace k_z10 := k_z10.m hup (by omega)
  replace k_z11 := k_z11.m hup (by omega)
  have k_z12 := At.n hup
  replace n_z13 := n_z13.n hup (by omega)
  replace n_z14 := n_z14.n hup (by omega)
  replace n_z15 := n_z15.n hup (by omega)
  replace n_z16 := n_z16.n hup (by omega)
  replace n_z17 := n_z17.n hup (by omega)
  replace kp := kp.n hup (by omega) (by assumption)
  clear hup
  refine a_putF hC hw rk9 in_X9_init_9 k_z0 13 (by decide) lk_X9_init_46 rfl hnm rfl rfl rfl (Nat.le_of_ble_eq_true rfl) dX9_init_98 (fun W H locs hup hw => ?_)
  replace k_z1 := k_z1.v hup (by omega)
  replace k_z2 := k_z2.v hup (by omega)
  replace k_z3 := k_z3.v hup (by omega)
  replace k_z4 := k_z4.v hup (by omega)
  replace k_z5 := k_z5.v hup (by omega)
  replace k_z6 := k_z6.v hup (by omega)
  replace k_z7 := k_z7.v hup (by omega)
  replace k_z8 := k_z8.v hup (by omega)
  replace k_z9 := k_z9.v hup (by omega)
  replace k_z10 := k_z10.v hup (by omega)
  replace k_z11 := k_z11.v hup (by omega)
  replace k_z12 := k_z12.v hup (by omega)
  replace k_z0 : At W 0 (w.1 0) (.inr (9, [.ref a_z1, .int 0, .ref a_z2, .int 0, .ref a_z3, .ref a_z4, .ref a_z5, .ref a_z6, .ref a_z7, .ref a_z8, .ref a_z9, .ref a_z10, .ref a_z11, .ref a_z12, .null, .null, .null, .int 0, .int 0, .int 0, .int 0, .null, .int 0, .null, .int 0, .int 0, .int 0, .int 0, .int 0, .int 0, .int 0, .int 0, .int 0, .int 0])) := k_z0.u hup
  replace n_z13 := n_z13.u hup
  replace n_z14 := n_z14.u hup
  replace n_z15 := n_z15.u hup
  replace n_z16 := n_z16.u hup
  replace n_z17 := n_z17.u hup
  replace kp := kp.u hup (by first | exact Or.inl (by omega) | exact Or.inr (by assumption))
  clear hup
  refine lv_aload_n hx hb dX9_init_101 rfl (lv_at hl 0 rfl) ?_
  refine lv_bipush (v := 60) hx hb dX9_init_102 (by decide) ?_
  refine a_newa hC hw 0 lka_X9_init_int rfl rfl (fun _ h => by cases h) 13 n_z13 (N' := 60) (fun cA => cell_i0 cA _) (by decide) rfl (by decide) (Nat.le_of_ble_eq_true rfl) (Nat.le_of_ble_eq_true rfl) dX9_init_104 (fun a_z13 W H hup hw => ?_)
  replace k_z0 := k_z0.m hup (by omega)
  replace k_z1 := k_z1.m hup (by omega)
  replace k_z2 := k_z2.m hup (by omega)
  replace k_z3 := k_z3.m hup (by omega)
  replace k_z4 := k_z4.m hup (by omega)
  replace k_z5 := k_z5.m hup (by omega)
  replace k_z6 := k_z6.m hup (by omega)
  replace k_z7 := k_z7.m hup (by omega)
  replace k_z8 := k_z8.m hup (by omega)
  replace k_z9 := k_z9.m hup (by omega)
  replace k_z10 := k_z10.m hup (by omega)
  replace k_z11 := k_z11.m hup (by omega)
  replace k_z12 := k_z12.m hup (by omega)
  have k_z13 := At.n hup
  replace n_z14 := n_z14.n hup (by omega)
  replace n_z15 := n_z15.n hup (by omega)
  replace n_z16 := n_z16.n hup (by omega)
  replace n_z17 := n_z17.n hup (by omega)
  replace kp := kp.n hup (by omega) (by assumption)
  clear hup
  refine a_putF hC hw rk9 in_X9_init_9 k_z0 14 (by decide) lk_X9_init_49 rfl hnm rfl rfl rfl (Nat.le_of_ble_eq_true rfl) dX9_init_106 (fun W H locs hup hw => ?_)
  replace k_z1 := k_z1.v hup (by omega)
  replace k_z2 := k_z2.v hup (by omega)
  replace k_z3 := k_z3.v hup (by omega)
  replace k_z4 := k_z4.v hup (by omega)
  replace k_z5 := k_z5.v hup (by omega)
  replace k_z6 := k_z6.v hup (by omega)
  replace k_z7 := k_z7.v hup (by omega)
  replace k_z8 := k_z8.v hup (by omega)
  replace k_z9 := k_z9.v hup (by omega)
  replace k_z10 := k_z10.v hup (by omega)
  replace k_z11 := k_z11.v hup (by omega)
  replace k_z12 := k_z12.v hup (by omega)
  replace k_z13 := k_z13.v hup (by omega)
  replace k_z0 : At W 0 (w.1 0) (.inr (9, [.ref a_z1, .int 0, .ref a_z2, .int 0, .ref a_z3, .ref a_z4, .ref a_z5, .ref a_z6, .ref a_z7, .ref a_z8, .ref a_z9, .ref a_z10, .ref a_z11, .ref a_z12, .ref a_z13, .null, .null, .int 0, .int 0, .int 0, .int 0, .null, .int 0, .null, .int 0, .int 0, .int 0, .int 0, .int 0, .int 0, .int 0, .int 0, .int 0, .int 0])) := k_z0.u hup
  replace n_z14 := n_z14.u hup
  replace n_z15 := n_z15.u hup
  replace n_z16 := n_z16.u hup
  replace n_z17 := n_z17.u hup
  replace kp := kp.u hup (by first | exact Or.inl (by omega) | exact Or.inr (by assumption))
  clear hup
  refine lv_aload_n hx hb dX9_init_109 rfl (lv_at hl 0 rfl) ?_
  refine lv_bipush (v := 60) hx hb dX9_init_110 (by decide) ?_
  refine a_newa hC hw 1 lka_X9_init_long rfl rfl (fun _ h => by cases h) 14 n_z14 (N' := 60) (fun cA => cell_j0 cA _) (by decide) rfl (by decide) (Nat.le_of_ble_eq_true rfl) (Nat.le_of_ble_eq_true rfl) dX9_init_112 (fun a_z14 W H hup hw => ?_)
  replace k_z0 := k_z0.m hup (by omega)
  replace k_z1 := k_z1.m hup (by omega)
  replace k_z2 := k_z2.m hup (by omega)
  replace k_z3 := k_z3.m hup (by omega)
  replace k_z4 := k_z4.m hup (by omega)
  replace k_z5 := k_z5.m hup (by omega)
  replace k_z6 := k_z6.m hup (by omega)
  replace k_z7 := k_z7.m hup (by omega)
  replace k_z8 := k_z8.m hup (by omega)
  replace k_z9 := k_z9.m hup (by omega)
  replace k_z10 := k_z10.m hup (by omega)
  replace k_z11 := k_z11.m hup (by omega)
  replace k_z12 := k_z12.m hup (by omega)
  replace k_z13 := k_z13.m hup (by omega)
  have k_z14 := At.n hup
  replace n_z15 := n_z15.n hup (by omega)
  replace n_z16 := n_z16.n hup (by omega)
  replace n_z17 := n_z17.n hup (by omega)
  replace kp := kp.n hup (by omega) (by assumption)
  clear hup
  refine a_putF hC hw rk9 in_X9_init_9 k_z0 15 (by decide) lk_X9_init_52 rfl hnm rfl rfl rfl (Nat.le_of_ble_eq_true rfl) dX9_init_114 (fun W H locs hup hw => ?_)
  replace k_z1 := k_z1.v hup (by omega)
  replace k_z2 := k_z2.v hup (by omega)
  replace k_z3 := k_z3.v hup (by omega)
  replace k_z4 := k_z4.v hup (by omega)
  replace k_z5 := k_z5.v hup (by omega)
  replace k_z6 := k_z6.v hup (by omega)
  replace k_z7 := k_z7.v hup (by omega)
  replace k_z8 := k_z8.v hup (by omega)
  replace k_z9 := k_z9.v hup (by omega)
  replace k_z10 := k_z10.v hup (by omega)
  replace k_z11 := k_z11.v hup (by omega)
  replace k_z12 := k_z12.v hup (by omega)
  replace k_z13 := k_z13.v hup (by omega)
  replace k_z14 := k_z14.v hup (by omega)
  replace k_z0 : At W 0 (w.1 0) (.inr (9, [.ref a_z1, .int 0, .ref a_z2, .int 0, .ref a_z3, .ref a_z4, .ref a_z5, .ref a_z6, .ref a_z7, .ref a_z8, .ref a_z9, .ref a_z10, .ref a_z11, .ref a_z12, .ref a_z13, .ref a_z14, .null, .int 0, .int 0, .int 0, .int 0, .null, .int 0, .null, .int 0, .int 0, .int 0, .int 0, .int 0, .int 0, .int 0, .int 0, .int 0, .int 0])) := k_z0.u hup
  replace n_z15 := n_z15.u hup
  replace n_z16 := n_z16.u hup
  replace n_z17 := n_z17.u hup
  replace kp := kp.u hup (by first | exact Or.inl (by omega) | exact Or.inr (by assumption))
  clear hup
  refine lv_aload_n hx hb dX9_init_117 rfl (lv_at hl 0 rfl) ?_
  refine lv_bipush (v := 60) hx hb dX9_init_118 (by decide) ?_
  refine a_newa hC hw 0 lka_X9_init_int rfl rfl (fun _ h => by cases h) 15 n_z15 (N' := 60) (fun cA => cell_i0 cA _) (by decide) rfl (by decide) (Nat.le_of_ble_eq_true rfl) (Nat.le_of_ble_eq_true rfl) dX9_init_120 (fun a_z15 W H hup hw => ?_)
  replace k_z0 := k_z0.m hup (by omega)
  replace k_z1 := k_z1.m hup (by omega)
  replace k_z2 := k_z2.m hup (by omega)
  replace k_z3 := k_z3.m hup (by omega)
  replace k_z4 := k_z4.m hup (by omega)
  replace k_z5 := k_z5.m hup (by omega)
  replace k_z6 := k_z6.m hup (by omega)
  replace k_z7 := k_z7.m hup (by omega)
  replace k_z8 := k_z8.m hup (by omega)
  replace k_z9 := k_z9.m hup (by omega)
  replace k_z10 := k_z10.m hup (by omega)
  replace k_z11 := k_z11.m hup (by omega)
  replace k_z12 := k_z12.m hup (by omega)
  replace k_z13 := k_z13.m hup (by omega)
  replace k_z14 := k_z14.m hup (by omega)
  have k_z15 := At.n hup
  replace n_z16 := n_z16.n hup (by omega)
  replace n_z17 := n_z17.n hup (by omega)
  replace kp := kp.n hup (by omega) (by assumption)
  clear hup
  refine a_putF hC hw rk9 in_X9_init_9 k_z0 16 (by decide) lk_X9_init_55 rfl hnm rfl rfl rfl (Nat.le_of_ble_eq_true rfl) dX9_init_122 (fun W H locs hup hw => ?_)
  replace k_z1 := k_z1.v hup (by omega)
  replace k_z2 := k_z2.v hup (by omega)
  replace k_z3 := k_z3.v hup (by omega)
  replace k_z4 := k_z4.v hup (by omega)
  replace k_z5 := k_z5.v hup (by omega)
  replace k_z6 := k_z6.v hup (by omega)
  replace k_z7 := k_z7.v hup (by omega)
  replace k_z8 := k_z8.v hup (by omega)
  replace k_z9 := k_z9.v hup (by omega)
  replace k_z10 := k_z10.v hup (by omega)
  replace k_z11 := k_z11.v hup (by omega)
  replace k_z12 := k_z12.v hup (by omega)
  replace k_z13 := k_z13.v hup (by omega)
  replace k_z14 := k_z14.v hup (by omega)
  replace k_z15 := k_z15.v hup (by omega)
  replace k_z0 : At W 0 (w.1 0) (.inr (9, [.ref a_z1, .int 0, .ref a_z2, .int 0, .ref a_z3, .ref a_z4, .ref a_z5, .ref a_z6, .ref a_z7, .ref a_z8, .ref a_z9, .ref a_z10, .ref a_z11, .ref a_z12, .ref a_z13, .ref a_z14, .ref a_z15, .int 0, .int 0, .int 0, .int 0, .null, .int 0, .null, .int 0, .int 0, .int 0, .int 0, .int 0, .int 0, .int 0, .int 0, .int 0, .int 0])) := k_z0.u hup
  replace n_z16 := n_z16.u hup
  replace n_z17 := n_z17.u hup
  replace kp := kp.u hup (by first | exact Or.inl (by omega) | exact Or.inr (by assumption))
  clear hup
  refine lv_aload_n hx hb dX9_init_125 rfl (lv_at hl 0 rfl) ?_
  refine lv_bipush (v := 12) hx hb dX9_init_126 (by decide) ?_
  refine a_newa hC hw 0 lka_X9_init_int rfl rfl (fun _ h => by cases h) 16 n_z16 (N' := 12) (fun cA => cell_i0 cA _) (by decide) rfl (by decide) (Nat.le_of_ble_eq_true rfl) (Nat.le_of_ble_eq_true rfl) dX9_init_128 (fun a_z16 W H hup hw => ?_)
  replace k_z0 := k_z0.m hup (by omega)
  replace k_z1 := k_z1.m hup (by omega)
  replace k_z2 := k_z2.m hup (by omega)
  replace k_z3 := k_z3.m hup (by omega)
  replace k_z4 := k_z4.m hup (by omega)
  replace k_z5 := k_z5.m hup (by omega)
  replace k_z6 := k_z6.m hup (by omega)
  replace k_z7 := k_z7.m hup (by omega)
  replace k_z8 := k_z8.m hup (by omega)
  replace k_z9 := k_z9.m hup (by omega)
  replace k_z10 := k_z10.m hup (by omega)
  replace k_z11 := k_z11.m hup (by omega)
  replace k_z12 := k_z12.m hup (by omega)
  replace k_z13 := k_z13.m hup (by omega)
  replace k_z14 := k_z14.m hup (by omega)
  replace k_z15 := k_z15.m hup (by omega)
  have k_z16 := At.n hup
  replace n_z17 := n_z17.n hup (by omega)
  replace kp := kp.n hup (by omega) (by assumption)
  clear hup
  refine a_putF hC hw rk9 in_X9_init_9 k_z0 21 (by decide) lk_X9_init_58 rfl hnm rfl rfl rfl (Nat.le_of_ble_eq_true rfl) dX9_init_130 (fun W H locs hup hw => ?_)
  replace k_z1 := k_z1.v hup (by omega)
  replace k_z2 := k_z2.v hup (by omega)
  replace k_z3 := k_z3.v hup (by omega)
  replace k_z4 := k_z4.v hup (by omega)
  replace k_z5 := k_z5.v hup (by omega)
  replace k_z6 := k_z6.v hup (by omega)
  replace k_z7 := k_z7.v hup (by omega)
  replace k_z8 := k_z8.v hup (by omega)
  replace k_z9 := k_z9.v hup (by omega)
  replace k_z10 := k_z10.v hup (by omega)
  replace k_z11 := k_z11.v hup (by omega)
  replace k_z12 := k_z12.v hup (by omega)
  replace k_z13 := k_z13.v hup (by omega)
  replace k_z14 := k_z14.v hup (by omega)
  replace k_z15 := k_z15.v hup (by omega)
  replace k_z16 := k_z16.v hup (by omega)
  replace k_z0 : At W 0 (w.1 0) (.inr (9, [.ref a_z1, .int 0, .ref a_z2, .int 0, .ref a_z3, .ref a_z4, .ref a_z5, .ref a_z6, .ref a_z7, .ref a_z8, .ref a_z9, .ref a_z10, .ref a_z11, .ref a_z12, .ref a_z13, .ref a_z14, .ref a_z15, .int 0, .int 0, .int 0, .int 0, .ref a_z16, .int 0, .null, .int 0, .int 0, .int 0, .int 0, .int 0, .int 0, .int 0, .int 0, .int 0, .int 0])) := k_z0.u hup
  replace n_z17 := n_z17.u hup
  replace kp := kp.u hup (by first | exact Or.inl (by omega) | exact Or.inr (by assumption))
  clear hup
  refine lv_aload_n hx hb dX9_init_133 rfl (lv_at hl 0 rfl) ?_
  refine lv_sipush (v := 200) hx hb dX9_init_134 (by decide) ?_
  refine a_newa hC hw 0 lka_X9_init_int rfl rfl (fun _ h => by cases h) 17 n_z17 (N' := 200) (fun cA => cell_i0 cA _) (by decide) rfl (by decide) (Nat.le_of_ble_eq_true rfl) (Nat.le_of_ble_eq_true rfl) dX9_init_137 (fun a_z17 W H hup hw => ?_)
  replace k_z0 := k_z0.m hup (by omega)
  replace k_z1 := k_z1.m hup (by omega)
  replace k_z2 := k_z2.m hup (by omega)
  replace k_z3 := k_z3.m hup (by omega)
  replace k_z4 := k_z4.m hup (by omega)
  replace k_z5 := k_z5.m hup (by omega)
  replace k_z6 := k_z6.m hup (by omega)
  replace k_z7 := k_z7.m hup (by omega)
  replace k_z8 := k_z8.m hup (by omega)
  replace k_z9 := k_z9.m hup (by omega)
  replace k_z10 := k_z10.m hup (by omega)
  replace k_z11 := k_z11.m hup (by omega)
  replace k_z12 := k_z12.m hup (by omega)
  replace k_z13 := k_z13.m hup (by omega)
  replace k_z14 := k_z14.m hup (by omega)
  replace k_z15 := k_z15.m hup (by omega)
  replace k_z16 := k_z16.m hup (by omega)
  have k_z17 := At.n hup
  replace kp := kp.n hup (by omega) (by assumption)
  clear hup
  refine a_putF hC hw rk9 in_X9_init_9 k_z0 23 (by decide) lk_X9_init_61 rfl hnm rfl rfl rfl (Nat.le_of_ble_eq_true rfl) dX9_init_139 (fun W H locs hup hw => ?_)
  replace k_z1 := k_z1.v hup (by omega)
  replace k_z2 := k_z2.v hup (by omega)
  replace k_z3 := k_z3.v hup (by omega)
  replace k_z4 := k_z4.v hup (by omega)
  replace k_z5 := k_z5.v hup (by omega)
  replace k_z6 := k_z6.v hup (by omega)
  replace k_z7 := k_z7.v hup (by omega)
  replace k_z8 := k_z8.v hup (by omega)
  replace k_z9 := k_z9.v hup (by omega)
  replace k_z10 := k_z10.v hup (by omega)
  replace k_z11 := k_z11.v hup (by omega)
  replace k_z12 := k_z12.v hup (by omega)
  replace k_z13 := k_z13.v hup (by omega)
  replace k_z14 := k_z14.v hup (by omega)
  replace k_z15 := k_z15.v hup (by omega)
  replace k_z16 := k_z16.v hup (by omega)
  replace k_z17 := k_z17.v hup (by omega)
  replace k_z0 : At W 0 (w.1 0) (.inr (9, [.ref a_z1, .int 0, .ref a_z2, .int 0, .ref a_z3, .ref a_z4, .ref a_z5, .ref a_z6, .ref a_z7, .ref a_z8, .ref a_z9, .ref a_z10, .ref a_z11, .ref a_z12, .ref a_z13, .ref a_z14, .ref a_z15, .int 0, .int 0, .int 0, .int 0, .ref a_z16, .int 0, .ref a_z17, .int 0, .int 0, .int 0, .int 0, .int 0, .int 0, .int 0, .int 0, .int 0, .int 0])) := k_z0.u hup
  replace kp := kp.u hup (by first | exact Or.inl (by omega) | exact Or.inr (by assumption))
  clear hup
  refine lv_aload_n hx hb dX9_init_142 rfl (lv_at hl 0 rfl) ?_
  refine lv_iconst (v := (-1)) hx hb dX9_init_143 (by decide) ?_
  refine a_put hC hw rk9 in_X9_init_9 k_z0 27 (by decide) lk_X9_init_64 rfl rfl rfl (Nat.le_of_ble_eq_true rfl) dX9_init_144 (fun W H locs hup hw => ?_)
  replace k_z1 := k_z1.v hup (by omega)
  replace k_z2 := k_z2.v hup (by omega)
  replace k_z3 := k_z3.v hup (by omega)
  replace k_z4 := k_z4.v hup (by omega)
  replace k_z5 := k_z5.v hup (by omega)
  replace k_z6 := k_z6.v hup (by omega)
  replace k_z7 := k_z7.v hup (by omega)
  replace k_z8 := k_z8.v hup (by omega)
  replace k_z9 := k_z9.v hup (by omega)
  replace k_z10 := k_z10.v hup (by omega)
  replace k_z11 := k_z11.v hup (by omega)
  replace k_z12 := k_z12.v hup (by omega)
  replace k_z13 := k_z13.v hup (by omega)
  replace k_z14 := k_z14.v hup (by omega)
  replace k_z15 := k_z15.v hup (by omega)
  replace k_z16 := k_z16.v hup (by omega)
  replace k_z17 := k_z17.v hup (by omega)
  replace k_z0 : At W 0 (w.1 0) (.inr (9, [.ref a_z1, .int 0, .ref a_z2, .int 0, .ref a_z3, .ref a_z4, .ref a_z5, .ref a_z6, .ref a_z7, .ref a_z8, .ref a_z9, .ref a_z10, .ref a_z11, .ref a_z12, .ref a_z13, .ref a_z14, .ref a_z15, .int 0, .int 0, .int 0, .int 0, .ref a_z16, .int 0, .ref a_z17, .int 0, .int 0, .int 0, .int (-1), .int 0, .int 0, .int 0, .int 0, .int 0, .int 0])) := k_z0.u hup
  replace kp := kp.u hup (by first | exact Or.inl (by omega) | exact Or.inr (by assumption))
  clear hup
  exact r_vret hC hr hlk hw W rfl ⟨kp, a_z1, a_z2, a_z3, a_z4, a_z5, a_z6, a_z7, a_z8, a_z9, a_z10, a_z11, a_z12, a_z13, a_z14, a_z15, a_z16, a_z17, k_z0, k_z1, k_z2, k_z3, k_z4, k_z5, k_z6, k_z7, k_z8, k_z9, k_z10, k_z11, k_z12, k_z13, k_z14, k_z15, k_z16, k_z17⟩ (Nat.le_of_ble_eq_true rfl) (Nat.le_of_ble_eq_true rfl) dX9_init_147

