def s4 (κ : KS) (k n : Nat) (o a b c : Int32) : KS := uA (uA (uA (uA κ k (4 * n) o) k (4 * n + 1) a) k (4 * n + 2) b) k (4 * n + 3) c
theorem s4_at (κ : KS) (k n : Nat) (o a b c : Int32) : sA (s4 κ k n o a b c) k (4 * n) = o ∧ sA (s4 κ k n o a b c) k (4 * n + 1) = a ∧ sA (s4 κ k n o a b c) k (4 * n + 2) = b ∧ sA (s4 κ k n o a b c) k (4 * n + 3) = c := by
  unfold s4
  rw [uA_same, uA_same, uA_same, uA_same]
  refine ⟨?_, ?_, ?_, va_up_self _ _ _⟩
  · rw [va_up_ne _ _ (by omega), va_up_ne _ _ (by omega), va_up_ne _ _ (by omega), va_up_self]
  · rw [va_up_ne _ _ (by omega), va_up_ne _ _ (by omega), va_up_self]
  · rw [va_up_ne _ _ (by omega), va_up_self]
theorem s4_lt (κ : KS) (k n : Nat) (o a b c : Int32) {j : Nat} (h : j < 4 * n) : sA (s4 κ k n o a b c) k j = sA κ k j := by
  unfold s4
  rw [uA_same, uA_same, uA_same, uA_same, va_up_ne _ _ (by omega), va_up_ne _ _ (by omega), va_up_ne _ _ (by omega), va_up_ne _ _ (by omega)]
theorem s4_ne (κ : KS) {k k' : Nat} (n : Nat) (o a b c : Int32) (h : k' ≠ k) : sA (s4 κ k n o a b c) k' = sA κ k' := by
  unfold s4
  rw [uA_ne _ _ _ h, uA_ne _ _ _ h, uA_ne _ _ _ h, uA_ne _ _ _ h]
theorem s4_uI (κ : KS) (k n : Nat) (o a b c : Int32) (j : Nat) (v : Int32) : s4 (uI κ j v) k n o a b c = uI (s4 κ k n o a b c) j v := rfl
def wS (q : Nat → ClassId) (ad : Nat → Nat) (κ : KS) (τ : TAU) (r : Nat) : wT := (ad, (fun i => lvX κ i ∨ i = r), exX q ad κ τ)
theorem lvXV0 {κ : KS} {M i : Nat} (hM : aN (sI κ 2) = M) : lvX κ i ↔ lvV κ M i := by unfold lvX lvV; rw [hM]
theorem lv_n1 {κ : KS} {mn : Nat} {i : Nat} (h0 : sI κ 0 = nI mn) (h150 : mn < 150) (hi : lvX (uI κ 0 (nI (mn + 1))) i) : lvX κ i ∨ i = 400 + mn := by
  have e0 : sI (uI κ 0 (nI (mn + 1))) 0 = nI (mn + 1) := rfl
  have e1 : sI (uI κ 0 (nI (mn + 1))) 1 = sI κ 1 := rfl
  have e2 : sI (uI κ 0 (nI (mn + 1))) 2 = sI κ 2 := rfl
  unfold lvX at hi ⊢
  rw [e0, e1, e2, show aN (nI (mn + 1)) = mn + 1 from nI_clamp (by omega)] at hi
  rw [h0, show aN (nI mn) = mn from nI_clamp (by omega)]
  omega
theorem lv_n2 {κ : KS} {mn : Nat} {i : Nat} (h0 : sI κ 1 = nI mn) (h16 : mn < 16) (hi : lvX (uI κ 1 (nI (mn + 1))) i) : lvX κ i ∨ i = 600 + mn := by
  have e0 : sI (uI κ 1 (nI (mn + 1))) 1 = nI (mn + 1) := rfl
  have e1 : sI (uI κ 1 (nI (mn + 1))) 0 = sI κ 0 := rfl
  have e2 : sI (uI κ 1 (nI (mn + 1))) 2 = sI κ 2 := rfl
  unfold lvX at hi ⊢
  rw [e0, e1, e2, show aN (nI (mn + 1)) = mn + 1 from nI_clamp (by omega)] at hi
  rw [h0, show aN (nI mn) = mn from nI_clamp (by omega)]
  omega
theorem xNS {D : va_G} {q : Nat → ClassId} {A : Nat → Prop} {H0 : Heap} {s : State} {ad : Nat → Nat} {κ : KS} {τ : TAU} {H : Heap} {locs : List Loc} {M mn : Nat} {W : wT} {a0 : Nat} {o a b c : Int32} (hM : aN (sI κ 2) = M) (hM60 : M ≤ 60) (hF : WFa κ τ M) (h0 : sI κ 0 = nI mn) (hcap : mn < 150) (hz : aN (sI κ 1) ≤ 16) (hold : ∀ i, lvX κ i → W.2.1 i ∧ W.1 i = ad i ∧ W.2.2 i = exX q ad κ τ i) (k0 : At W (400 + mn) a0 (.inr (5, [.int o, .int a, .int b, .int c]))) (hw : rX D q A H0 s W H locs) : rX D q A H0 s (wS q W.1 (s4 κ 0 mn o a b c) τ (400 + mn)) H locs := by
  have hnm : aN (sI κ 0) = mn := by rw [h0]; exact nI_clamp (by omega)
  have hl : ∀ i, lvX (s4 κ 0 mn o a b c) i ↔ lvX κ i := fun i => Iff.rfl
  refine hw.as (fun i hi => ?_) (fun i hi => rfl) (fun i hi => ?_)
  · rcases hi with hi | hi
    · exact (hold i ((hl i).mp hi)).1
    · rw [hi]; exact k0.1
  · show exX q W.1 (s4 κ 0 mn o a b c) τ i = W.2.2 i
    have z := s4_at κ 0 mn o a b c
    by_cases hr : i = 400 + mn
    · rw [hr, k0.2.2, exS (by omega), z.1, z.2.1, z.2.2.1, z.2.2.2]
    · have hi2 : lvX κ i := by
        rcases hi with hi | hi
        · exact (hl i).mp hi
        · exact absurd hi hr
      rw [(hold i hi2).2.2]
      have e1 : exX q W.1 κ τ i = exX q ad κ τ i := exX_ad hM60 (fun j hj => (hold j ((lvXV0 hM).mpr hj)).2.1) hF i ((lvXV0 hM).mp hi2)
      rw [← e1]
      have hne : ∀ k', k' ≠ 0 → sA (s4 κ 0 mn o a b c) k' = sA κ k' := fun k' hk => s4_ne κ mn o a b c hk
      by_cases h15 : i < 15
      · rw [exX_lt h15, exX_lt h15]
        exact congrFun (exF_cg rfl (hne 2 (by decide)) (hne 3 (by decide)) (hne 9 (by decide)) (hne 10 (by decide)) rfl rfl rfl) i
      · rw [exX_ge h15, exX_ge h15]
        by_cases h4 : i < 400
        · unfold exG
          rw [if_pos h4, if_pos h4]
          have hj : (i - 100) % 4 < 4 := Nat.mod_lt _ (by decide)
          match (i - 100) % 4, hj with
          | 0, _ => exact exT0_cg (hne 4 (by decide)) (hne 5 (by decide)) (hne 7 (by decide)) (hne 8 (by decide)) rfl
          | 1, _ => exact exT1_cg (hne 4 (by decide)) (hne 5 (by decide)) rfl
          | 2, _ => exact exT2_cg (hne 4 (by decide)) (hne 5 (by decide)) rfl
          | 3, _ => exact exT3_cg (hne 4 (by decide)) (hne 5 (by decide)) (hne 6 (by decide))
          | j + 4, hj => exact absurd hj (by omega)
        · unfold lvX at hi2
          rw [hnm] at hi2
          unfold exG
          rw [if_neg h4, if_neg h4]
          by_cases h6 : i < 600
          · rw [if_pos h6, if_pos h6]
            rw [s4_lt _ _ _ _ _ _ _ (by omega), s4_lt _ _ _ _ _ _ _ (by omega), s4_lt _ _ _ _ _ _ _ (by omega), s4_lt _ _ _ _ _ _ _ (by omega)]
          · rw [if_neg h6, if_neg h6]
            rw [hne 1 (by decide)]
theorem nl_S {q : Nat → ClassId} {ad : Nat → Nat} {κ : KS} {τ : TAU} {mn : Nat} (h0 : sI κ 0 = nI mn) (hcap : mn < 150) (hM : aN (sI κ 2) ≤ 60) (hoc : aN (sI κ 1) ≤ 16) : Nl (wX q ad (uI κ 3 0) τ) (400 + mn) := by
  show ¬ lvX (uI κ 3 0) _
  have e0 : sI (uI κ 3 0) 0 = nI mn := h0
  have e1 : aN (sI (uI κ 3 0) 2) ≤ 60 := hM
  have e2 : aN (sI (uI κ 3 0) 1) ≤ 16 := hoc
  unfold lvX
  rw [e0, show aN (nI mn) = mn from nI_clamp (by omega)]
  omega
theorem xAS {D : va_G} {q : Nat → ClassId} {A : Nat → Prop} {H0 : Heap} {s : State} {ad : Nat → Nat} {κ : KS} {τ : TAU} {H : Heap} {locs : List Loc} {mn : Nat} (h0 : sI κ 0 = nI mn) (hcap : mn < 150) (h : rX D q A H0 s (wU (wU (wS q ad κ τ (400 + mn)) 6 (.inl (q 4, 150, .inr (.inr (.inr (.inr (va_up τ.1 mn (some (ad (400 + mn)))))))))) 1 (.inr (1, [.ref (ad 6), .ref (ad 7), .int (nI (mn + 1)), .int (sI κ 1)]))) H locs) : rX D q A H0 s (wX q ad (uI κ 0 (nI (mn + 1))) (va_up τ.1 mn (some (ad (400 + mn))), τ.2)) H locs := by
  refine h.as (fun i hi => lv_n1 h0 hcap hi) (fun i hi => rfl) (fun i hi => ?_)
  show exX q ad (uI κ 0 (nI (mn + 1))) (va_up τ.1 mn (some (ad (400 + mn))), τ.2) i = va_up (va_up (exX q ad κ τ) 6 (.inl (q 4, 150, .inr (.inr (.inr (.inr (va_up τ.1 mn (some (ad (400 + mn)))))))))) 1 (.inr (1, [.ref (ad 6), .ref (ad 7), .int (nI (mn + 1)), .int (sI κ 1)])) i
  by_cases hj : i < 15
  · match i, hj with
    | 0, _ => rfl
    | 1, _ => rfl
    | 2, _ => rfl
    | 3, _ => rfl
    | 4, _ => rfl
    | 5, _ => rfl
    | 6, _ => rfl
    | 7, _ => rfl
    | 8, _ => rfl
    | 9, _ => rfl
    | 10, _ => rfl
    | 11, _ => rfl
    | 12, _ => rfl
    | 13, _ => rfl
    | 14, _ => rfl
    | i + 15, hj => exact absurd hj (by omega)
  · rw [va_up_ne _ _ (by omega), va_up_ne _ _ (by omega), exX_ge hj, exX_ge hj]; rfl
set_option maxHeartbeats 4000000 in
set_option maxRecDepth 100000 in
theorem c_X5_init (l : Launch) {D : va_G} {q : Nat → ClassId} (w : wT) (sz : Nat) (i : Nat) (x0 x1 x2 x3 : Int32) (hl_i : w.2.1 i) (hc_i : w.2.2 i = .inr (5, [.int 0, .int 0, .int 0, .int 0])) : Met l yX5_init wsX5_init (rmz 1 12) (va_Pc [.ref (w.1 i), .int x0, .int x1, .int x2, .int x3] (rPre D q w sz)) (va_Qv (fun (u : wT) => Kp w u (fun r => r = i) (fun _ => False) ∧ At u i (w.1 i) (.inr (5, [.int x0, .int x1, .int x2, .int x3]))) (fun (u : wT) tt => rPo D (rA w sz) u tt) (rA w sz)) 0 0 (rA w sz) := by
  refine r_start (cc := cX5_init) (maxL := 5) (ret := none) (by decide) rfl (Nat.le_of_ble_eq_true rfl) ?_
  intro p e s m below meth c ls hC hr hlk hnm hsz hw hl
  have hx := hC.1
  have hb := hC.2.1
  have hl : lv_has ls 5 [(0, .ref (w.1 i)), (1, .int x0), (2, .int x1), (3, .int x2), (4, .int x3)] := hl
  have k_i : At w i (w.1 i) (.inr (5, [.int 0, .int 0, .int 0, .int 0])) := ⟨hl_i, rfl, hc_i⟩
  have kp : Kp w w (fun r => r = i) (fun _ => False) := Kp.rf
  refine lv_aload_n hx hb dX5_init_0 rfl (lv_at hl 0 rfl) ?_
  refine a_obj hC lk_X5_init_1 lki_X5_init_1 lkc_X5_init_1 hl.1 dX5_init_1 (Nat.le_of_ble_eq_true rfl) (Nat.le_of_ble_eq_true rfl) ?_
  refine lv_aload_n hx hb dX5_init_4 rfl (lv_at hl 0 rfl) ?_
  refine lv_iload_n hx hb dX5_init_5 rfl (lv_at hl 1 rfl) ?_
  refine a_putF hC hw rk5 in_X5_init_5 k_i 0 (by decide) lk_X5_init_7 rfl hnm rfl rfl rfl (Nat.le_of_ble_eq_true rfl) dX5_init_6 (fun W H locs hup hw => ?_)
  replace k_i : At W i (w.1 i) (.inr (5, [.int x0, .int 0, .int 0, .int 0])) := k_i.u hup
  replace kp := kp.u hup (by first | exact Or.inl (by omega) | exact Or.inr (by assumption))
  clear hup
  refine lv_aload_n hx hb dX5_init_9 rfl (lv_at hl 0 rfl) ?_
  refine lv_iload_n hx hb dX5_init_10 rfl (lv_at hl 2 rfl) ?_
  refine a_putF hC hw rk5 in_X5_init_5 k_i 1 (by decide) lk_X5_init_13 rfl hnm rfl rfl rfl (Nat.le_of_ble_eq_true rfl) dX5_init_11 (fun W H locs hup hw => ?_)
  replace k_i : At W i (w.1 i) (.inr (5, [.int x0, .int x1, .int 0, .int 0])) := k_i.u hup
  replace kp := kp.u hup (by first | exact Or.inl (by omega) | exact Or.inr (by assumption))
  clear hup
  refine lv_aload_n hx hb dX5_init_14 rfl (lv_at hl 0 rfl) ?_
  refine lv_iload_n hx hb dX5_init_15 rfl (lv_at hl 3 rfl) ?_
  refine a_putF hC hw rk5 in_X5_init_5 k_i 2 (by decide) lk_X5_init_16 rfl hnm rfl rfl rfl (Nat.le_of_ble_eq_true rfl) dX5_init_16 (fun W H locs hup hw => ?_)
  replace k_i : At W i (w.1 i) (.inr (5, [.int x0, .int x1, .int x2, .int 0])) := k_i.u hup
  replace kp := kp.u hup (by first | exact Or.inl (by omega) | exact Or.inr (by assumption))
  clear hup
  refine lv_aload_n hx hb dX5_init_19 rfl (lv_at hl 0 rfl) ?_
  refine lv_iload hx hb dX5_init_20 (lv_at hl 4 rfl) ?_
  refine a_putF hC hw rk5 in_X5_init_5 k_i 3 (by decide) lk_X5_init_19 rfl hnm rfl rfl rfl (Nat.le_of_ble_eq_true rfl) dX5_init_22 (fun W H locs hup hw => ?_)
  replace k_i : At W i (w.1 i) (.inr (5, [.int x0, .int x1, .int x2, .int x3])) := k_i.u hup
  replace kp := kp.u hup (by first | exact Or.inl (by omega) | exact Or.inr (by assumption))
  clear hup
  exact r_vret hC hr hlk hw W rfl ⟨kp, k_i⟩ (Nat.le_of_ble_eq_true rfl) (Nat.le_of_ble_eq_true rfl) dX5_init_25

set_option maxHeartbeats 4000000 in
set_option maxRecDepth 100000 in
theorem c_X1_addStep (l : Launch) {D : va_G} {q : Nat → ClassId} {ad : Nat → Nat} {κ : KS} {τ : TAU} (sz : Nat) {mn : Nat} (h0 : sI κ 0 = nI mn) (hcap : mn < 150) {o a b c : Int32} (hc_r : (wS q ad κ τ (400 + mn)).2.2 (400 + mn) = .inr (5, [.int o, .int a, .int b, .int c])) : Met l yX1_addStep wsX1_addStep (rmz 0 0) (va_Pc [.ref (ad 1), .ref (ad (400 + mn))] (rPre D q (wS q ad κ τ (400 + mn)) sz)) (va_Qi (fun (r : Int32) (u : Unit) => r = nI (mn + 1)) (fun (u : Unit) tt => rPo D (rA (wS q ad κ τ (400 + mn)) sz) (wX q ad (uI κ 0 (nI (mn + 1))) (va_up τ.1 mn (some (ad (400 + mn))), τ.2)) tt) (rA (wS q ad κ τ (400 + mn)) sz)) 0 0 (rA (wS q ad κ τ (400 + mn)) sz) := by
  refine r_start (cc := cX1_addStep) (maxL := 2) (ret := (some .int)) (by decide) rfl (Nat.le_of_ble_eq_true rfl) ?_
  intro p e s m below meth c ls hC hr hlk hnm hsz hw hl
  have hx := hC.1
  have hb := hC.2.1
  have hl : lv_has ls 2 [(0, .ref (ad 1)), (1, .ref (ad (400 + mn)))] := hl
  refine lv_aload_n hx hb dX1_addStep_0 rfl (lv_at hl 0 rfl) ?_
  refine r_get hC hw rk1 in_X1_addStep_1 1 (Or.inl (Or.inl (by decide))) (wXc1 (q := q) (ad := ad) (κ := κ) (τ := τ)) 2 (by decide) lk_X1_addStep_23 (v := .int (sI κ 0)) rfl dX1_addStep_1 ?_
  refine lv_if_lt (tgt := 39) hx hb dX1_addStep_4 (by decide) (fun c_ => absurd c_ (by rw [h0]; exact nI_nn2 (by omega))) (fun _ => ?_)
  refine lv_aload_n hx hb dX1_addStep_7 rfl (lv_at hl 0 rfl) ?_
  refine r_get hC hw rk1 in_X1_addStep_1 1 (Or.inl (Or.inl (by decide))) (wXc1 (q := q) (ad := ad) (κ := κ) (τ := τ)) 2 (by decide) lk_X1_addStep_23 (v := .int (sI κ 0)) rfl dX1_addStep_8 ?_
  refine lv_aload_n hx hb dX1_addStep_11 rfl (lv_at hl 0 rfl) ?_
  refine r_get hC hw rk1 in_X1_addStep_1 1 (Or.inl (Or.inl (by decide))) (wXc1 (q := q) (ad := ad) (κ := κ) (τ := τ)) 0 (by decide) lk_X1_addStep_11 (v := .ref (ad 6)) rfl dX1_addStep_12 ?_
  refine r_alen hC hw 4 rfl 6 (Or.inl (Or.inl (by decide))) (wXc6 (q := q) (ad := ad) (κ := κ) (τ := τ)) (v := nI 150) rfl dX1_addStep_15 ?_
  refine lv_icmp_ge (tgt := 39) hx hb dX1_addStep_16 (by decide) (fun c_ => absurd c_ (by rw [h0]; exact nI_ge hcap (by decide))) (fun _ => ?_)
  refine lv_aload_n hx hb dX1_addStep_19 rfl (lv_at hl 0 rfl) ?_
  refine r_get hC hw rk1 in_X1_addStep_1 1 (Or.inl (Or.inl (by decide))) (wXc1 (q := q) (ad := ad) (κ := κ) (τ := τ)) 0 (by decide) lk_X1_addStep_11 (v := .ref (ad 6)) rfl dX1_addStep_20 ?_
  refine lv_aload_n hx hb dX1_addStep_23 rfl (lv_at hl 0 rfl) ?_
  refine r_get hC hw rk1 in_X1_addStep_1 1 (Or.inl (Or.inl (by decide))) (wXc1 (q := q) (ad := ad) (κ := κ) (τ := τ)) 2 (by decide) lk_X1_addStep_23 (v := .int (sI κ 0)) rfl dX1_addStep_24 ?_
  refine lv_aload_n hx hb dX1_addStep_27 rfl (lv_at hl 1 rfl) ?_
  refine r_aast hC hw 4 rk5 rfl 6 (Or.inl (Or.inl (by decide))) (wXc6 (q := q) (ad := ad) (κ := κ) (τ := τ)) (by rw [h0]; exact vp_in_nI (by omega) (by decide)) (400 + mn) (Or.inr rfl) hc_r dX1_addStep_28 (fun H locs hw => ?_)
  rw [show (sI κ 0).toNatClampNeg = mn by rw [h0]; exact nI_clamp (by omega)] at hw
  refine lv_aload_n hx hb dX1_addStep_29 rfl (lv_at hl 0 rfl) ?_
  refine lv_dup hx hb dX1_addStep_30 rfl ?_
  refine r_get hC hw rk1 in_X1_addStep_1 1 (Or.inl (Or.inl (by decide))) (wXc1 (q := q) (ad := ad) (κ := κ) (τ := τ)) 2 (by decide) lk_X1_addStep_23 (v := .int (sI κ 0)) rfl dX1_addStep_31 ?_
  refine lv_iconst (v := 1) hx hb dX1_addStep_34 (by decide) ?_
  refine lv_iadd hx hb dX1_addStep_35 ?_
  refine r_topv (y := .int (nI (mn + 1))) (by rw [h0, nI_1]) ?_
  refine r_put hC hw rk1 in_X1_addStep_1 1 (Or.inl (Or.inl (by decide))) (wXc1 (q := q) (ad := ad) (κ := κ) (τ := τ)) 2 (by decide) lk_X1_addStep_23 rfl rfl rfl (Nat.le_of_ble_eq_true rfl) dX1_addStep_36 (fun H locs hw => ?_)
  replace hw := xAS h0 hcap hw
  refine lv_aload_n hx hb dX1_addStep_39 rfl (lv_at hl 0 rfl) ?_
  refine r_get hC hw rk1 in_X1_addStep_1 1 (wXl 1 (by decide)) wXc1 2 (by decide) lk_X1_addStep_23 (v := .int (nI (mn + 1))) rfl dX1_addStep_40 ?_
  exact r_iret hC hr hlk hw () rfl rfl (Nat.le_of_ble_eq_true rfl) (Nat.le_of_ble_eq_true rfl) dX1_addStep_43

theorem xNH {D : va_G} {q : Nat → ClassId} {A : Nat → Prop} {H0 : Heap} {s : State} {ad : Nat → Nat} {κ : KS} {τ : TAU} {H : Heap} {locs : List Loc} {M mn : Nat} {W : wT} {a0 : Nat} {o a b c : Int32} (hM : aN (sI κ 2) = M) (hM60 : M ≤ 60) (hF : WFa κ τ M) (h0 : sI κ 1 = nI mn) (hcap : mn < 16) (hz : aN (sI κ 0) ≤ 150) (hold : ∀ i, lvX κ i → W.2.1 i ∧ W.1 i = ad i ∧ W.2.2 i = exX q ad κ τ i) (k0 : At W (600 + mn) a0 (.inr (0, [.int o, .int a, .int b, .int c]))) (hw : rX D q A H0 s W H locs) : rX D q A H0 s (wS q W.1 (s4 κ 1 mn o a b c) τ (600 + mn)) H locs := by
  have hnm : aN (sI κ 1) = mn := by rw [h0]; exact nI_clamp (by omega)
  have hl : ∀ i, lvX (s4 κ 1 mn o a b c) i ↔ lvX κ i := fun i => Iff.rfl
  refine hw.as (fun i hi => ?_) (fun i hi => rfl) (fun i hi => ?_)
  · rcases hi with hi | hi
    · exact (hold i ((hl i).mp hi)).1
    · rw [hi]; exact k0.1
  · show exX q W.1 (s4 κ 1 mn o a b c) τ i = W.2.2 i
    have z := s4_at κ 1 mn o a b c
    by_cases hr : i = 600 + mn
    · rw [hr, k0.2.2, exH, z.1, z.2.1, z.2.2.1, z.2.2.2]
    · have hi2 : lvX κ i := by
        rcases hi with hi | hi
        · exact (hl i).mp hi
        · exact absurd hi hr
      rw [(hold i hi2).2.2]
      have e1 : exX q W.1 κ τ i = exX q ad κ τ i := exX_ad hM60 (fun j hj => (hold j ((lvXV0 hM).mpr hj)).2.1) hF i ((lvXV0 hM).mp hi2)
      rw [← e1]
      have hne : ∀ k', k' ≠ 1 → sA (s4 κ 1 mn o a b c) k' = sA κ k' := fun k' hk => s4_ne κ mn o a b c hk
      by_cases h15 : i < 15
      · rw [exX_lt h15, exX_lt h15]
        exact congrFun (exF_cg rfl (hne 2 (by decide)) (hne 3 (by decide)) (hne 9 (by decide)) (hne 10 (by decide)) rfl rfl rfl) i
      · rw [exX_ge h15, exX_ge h15]
        by_cases h4 : i < 400
        · unfold exG
          rw [if_pos h4, if_pos h4]
          have hj : (i - 100) % 4 < 4 := Nat.mod_lt _ (by decide)
          match (i - 100) % 4, hj with
          | 0, _ => exact exT0_cg (hne 4 (by decide)) (hne 5 (by decide)) (hne 7 (by decide)) (hne 8 (by decide)) rfl
          | 1, _ => exact exT1_cg (hne 4 (by decide)) (hne 5 (by decide)) rfl
          | 2, _ => exact exT2_cg (hne 4 (by decide)) (hne 5 (by decide)) rfl
          | 3, _ => exact exT3_cg (hne 4 (by decide)) (hne 5 (by decide)) (hne 6 (by decide))
          | j + 4, hj => exact absurd hj (by omega)
        · unfold lvX at hi2
          rw [hnm] at hi2
          unfold exG
          rw [if_neg h4, if_neg h4]
          by_cases h6 : i < 600
          · rw [if_pos h6, if_pos h6]
            rw [hne 0 (by decide)]
          · rw [if_neg h6, if_neg h6]
            rw [s4_lt _ _ _ _ _ _ _ (by omega), s4_lt _ _ _ _ _ _ _ (by omega), s4_lt _ _ _ _ _ _ _ (by omega), s4_lt _ _ _ _ _ _ _ (by omega)]
theorem nl_H {q : Nat → ClassId} {ad : Nat → Nat} {κ : KS} {τ : TAU} {mn : Nat} (h0 : sI κ 1 = nI mn) (hcap : mn < 16) (hM : aN (sI κ 2) ≤ 60) (hoc : aN (sI κ 0) ≤ 150) : Nl (wX q ad (uI κ 3 0) τ) (600 + mn) := by
  show ¬ lvX (uI κ 3 0) _
  have e0 : sI (uI κ 3 0) 1 = nI mn := h0
  have e1 : aN (sI (uI κ 3 0) 2) ≤ 60 := hM
  have e2 : aN (sI (uI κ 3 0) 0) ≤ 150 := hoc
  unfold lvX
  rw [e0, show aN (nI mn) = mn from nI_clamp (by omega)]
  omega
theorem xAH {D : va_G} {q : Nat → ClassId} {A : Nat → Prop} {H0 : Heap} {s : State} {ad : Nat → Nat} {κ : KS} {τ : TAU} {H : Heap} {locs : List Loc} {mn : Nat} (h0 : sI κ 1 = nI mn) (hcap : mn < 16) (h : rX D q A H0 s (wU (wU (wS q ad κ τ (600 + mn)) 7 (.inl (q 5, 16, .inr (.inr (.inr (.inr (va_up τ.2.1 mn (some (ad (600 + mn)))))))))) 1 (.inr (1, [.ref (ad 6), .ref (ad 7), .int (sI κ 0), .int (nI (mn + 1))]))) H locs) : rX D q A H0 s (wX q ad (uI κ 1 (nI (mn + 1))) (τ.1, va_up τ.2.1 mn (some (ad (600 + mn))), τ.2.2)) H locs := by
  refine h.as (fun i hi => lv_n2 h0 hcap hi) (fun i hi => rfl) (fun i hi => ?_)
  show exX q ad (uI κ 1 (nI (mn + 1))) (τ.1, va_up τ.2.1 mn (some (ad (600 + mn))), τ.2.2) i = va_up (va_up (exX q ad κ τ) 7 (.inl (q 5, 16, .inr (.inr (.inr (.inr (va_up τ.2.1 mn (some (ad (600 + mn)))))))))) 1 (.inr (1, [.ref (ad 6), .ref (ad 7), .int (sI κ 0), .int (nI (mn + 1))])) i
  by_cases hj : i < 15
  · match i, hj with
    | 0, _ => rfl
    | 1, _ => rfl
    | 2, _ => rfl
    | 3, _ => rfl
    | 4, _ => rfl
    | 5, _ => rfl
    | 6, _ => rfl
    | 7, _ => rfl
    | 8, _ => rfl
    | 9, _ => rfl
    | 10, _ => rfl
    | 11, _ => rfl
    | 12, _ => rfl
    | 13, _ => rfl
    | 14, _ => rfl
    | i + 15, hj => exact absurd hj (by omega)
  · rw [va_up_ne _ _ (by omega), va_up_ne _ _ (by omega), exX_ge hj, exX_ge hj]; rfl
set_option maxHeartbeats 4000000 in
set_option maxRecDepth 100000 in
theorem c_X0_init (l : Launch) {D : va_G} {q : Nat → ClassId} (w : wT) (sz : Nat) (i : Nat) (x0 x1 x2 x3 : Int32) (hl_i : w.2.1 i) (hc_i : w.2.2 i = .inr (0, [.int 0, .int 0, .int 0, .int 0])) : Met l yX0_init wsX0_init (rmz 1 12) (va_Pc [.ref (w.1 i), .int x0, .int x1, .int x2, .int x3] (rPre D q w sz)) (va_Qv (fun (u : wT) => Kp w u (fun r => r = i) (fun _ => False) ∧ At u i (w.1 i) (.inr (0, [.int x0, .int x1, .int x2, .int x3]))) (fun (u : wT) tt => rPo D (rA w sz) u tt) (rA w sz)) 0 0 (rA w sz) := by
  refine r_start (cc := cX0_init) (maxL := 5) (ret := none) (by decide) rfl (Nat.le_of_ble_eq_true rfl) ?_
  intro p e s m below meth c ls hC hr hlk hnm hsz hw hl
  have hx := hC.1
  have hb := hC.2.1
  have hl : lv_has ls 5 [(0, .ref (w.1 i)), (1, .int x0), (2, .int x1), (3, .int x2), (4, .int x3)] := hl
  have k_i : At w i (w.1 i) (.inr (0, [.int 0, .int 0, .int 0, .int 0])) := ⟨hl_i, rfl, hc_i⟩
  have kp : Kp w w (fun r => r = i) (fun _ => False) := Kp.rf
  refine lv_aload_n hx hb dX0_init_0 rfl (lv_at hl 0 rfl) ?_
  refine a_obj hC lk_X0_init_1 lki_X0_init_1 lkc_X0_init_1 hl.1 dX0_init_1 (Nat.le_of_ble_eq_true rfl) (Nat.le_of_ble_eq_true rfl) ?_
  refine lv_aload_n hx hb dX0_init_4 rfl (lv_at hl 0 rfl) ?_
  refine lv_iload_n hx hb dX0_init_5 rfl (lv_at hl 1 rfl) ?_
  refine a_putF hC hw rk0 in_X0_init_0 k_i 0 (by decide) lk_X0_init_7 rfl hnm rfl rfl rfl (Nat.le_of_ble_eq_true rfl) dX0_init_6 (fun W H locs hup hw => ?_)
  replace k_i : At W i (w.1 i) (.inr (0, [.int x0, .int 0, .int 0, .int 0])) := k_i.u hup
  replace kp := kp.u hup (by first | exact Or.inl (by omega) | exact Or.inr (by assumption))
  clear hup
  refine lv_aload_n hx hb dX0_init_9 rfl (lv_at hl 0 rfl) ?_
  refine lv_iload_n hx hb dX0_init_10 rfl (lv_at hl 2 rfl) ?_
  refine a_putF hC hw rk0 in_X0_init_0 k_i 1 (by decide) lk_X0_init_13 rfl hnm rfl rfl rfl (Nat.le_of_ble_eq_true rfl) dX0_init_11 (fun W H locs hup hw => ?_)
  replace k_i : At W i (w.1 i) (.inr (0, [.int x0, .int x1, .int 0, .int 0])) := k_i.u hup
  replace kp := kp.u hup (by first | exact Or.inl (by omega) | exact Or.inr (by assumption))
  clear hup
  refine lv_aload_n hx hb dX0_init_14 rfl (lv_at hl 0 rfl) ?_
  refine lv_iload_n hx hb dX0_init_15 rfl (lv_at hl 3 rfl) ?_
  refine a_putF hC hw rk0 in_X0_init_0 k_i 2 (by decide) lk_X0_init_16 rfl hnm rfl rfl rfl (Nat.le_of_ble_eq_true rfl) dX0_init_16 (fun W H locs hup hw => ?_)
  replace k_i : At W i (w.1 i) (.inr (0, [.int x0, .int x1, .int x2, .int 0])) := k_i.u hup
  replace kp := kp.u hup (by first | exact Or.inl (by omega) | exact Or.inr (by assumption))
  clear hup
  refine lv_aload_n hx hb dX0_init_19 rfl (lv_at hl 0 rfl) ?_
  refine lv_iload hx hb dX0_init_20 (lv_at hl 4 rfl) ?_
  refine a_putF hC hw rk0 in_X0_init_0 k_i 3 (by decide) lk_X0_init_19 rfl hnm rfl rfl rfl (Nat.le_of_ble_eq_true rfl) dX0_init_22 (fun W H locs hup hw => ?_)
  replace k_i : At W i (w.1 i) (.inr (0, [.int x0, .int x1, .int x2, .int x3])) := k_i.u hup
  replace kp := kp.u hup (by first | exact Or.inl (by omega) | exact Or.inr (by assumption))
  clear hup
  exact r_vret hC hr hlk hw W rfl ⟨kp, k_i⟩ (Nat.le_of_ble_eq_true rfl) (Nat.le_of_ble_eq_true rfl) dX0_init_25

set_option maxHeartbeats 4000000 in
set_option maxRecDepth 100000 in
theorem c_X1_addHandler (l : Launch) {D : va_G} {q : Nat → ClassId} {ad : Nat → Nat} {κ : KS} {τ : TAU} (sz : Nat) {mn : Nat} (h0 : sI κ 1 = nI mn) (hcap : mn < 16) {o a b c : Int32} (hc_r : (wS q ad κ τ (600 + mn)).2.2 (600 + mn) = .inr (0, [.int o, .int a, .int b, .int c])) : Met l yX1_addHandler wsX1_addHandler (rmz 0 0) (va_Pc [.ref (ad 1), .ref (ad (600 + mn))] (rPre D q (wS q ad κ τ (600 + mn)) sz)) (va_Qi (fun (r : Int32) (u : Unit) => r = nI (mn + 1)) (fun (u : Unit) tt => rPo D (rA (wS q ad κ τ (600 + mn)) sz) (wX q ad (uI κ 1 (nI (mn + 1))) (τ.1, va_up τ.2.1 mn (some (ad (600 + mn))), τ.2.2)) tt) (rA (wS q ad κ τ (600 + mn)) sz)) 0 0 (rA (wS q ad κ τ (600 + mn)) sz) := by
  refine r_start (cc := cX1_addHandler) (maxL := 2) (ret := (some .int)) (by decide) rfl (Nat.le_of_ble_eq_true rfl) ?_
  intro p e s m below meth c ls hC hr hlk hnm hsz hw hl
  have hx := hC.1
  have hb := hC.2.1
  have hl : lv_has ls 2 [(0, .ref (ad 1)), (1, .ref (ad (600 + mn)))] := hl
  refine lv_aload_n hx hb dX1_addHandler_0 rfl (lv_at hl 0 rfl) ?_
  refine r_get hC hw rk1 in_X1_addHandler_1 1 (Or.inl (Or.inl (by decide))) (wXc1 (q := q) (ad := ad) (κ := κ) (τ := τ)) 3 (by decide) lk_X1_addHandler_27 (v := .int (sI κ 1)) rfl dX1_addHandler_1 ?_
  refine lv_if_lt (tgt := 39) hx hb dX1_addHandler_4 (by decide) (fun c_ => absurd c_ (by rw [h0]; exact nI_nn2 (by omega))) (fun _ => ?_)
  refine lv_aload_n hx hb dX1_addHandler_7 rfl (lv_at hl 0 rfl) ?_
  refine r_get hC hw rk1 in_X1_addHandler_1 1 (Or.inl (Or.inl (by decide))) (wXc1 (q := q) (ad := ad) (κ := κ) (τ := τ)) 3 (by decide) lk_X1_addHandler_27 (v := .int (sI κ 1)) rfl dX1_addHandler_8 ?_
  refine lv_aload_n hx hb dX1_addHandler_11 rfl (lv_at hl 0 rfl) ?_
  refine r_get hC hw rk1 in_X1_addHandler_1 1 (Or.inl (Or.inl (by decide))) (wXc1 (q := q) (ad := ad) (κ := κ) (τ := τ)) 1 (by decide) lk_X1_addHandler_19 (v := .ref (ad 7)) rfl dX1_addHandler_12 ?_
  refine r_alen hC hw 5 rfl 7 (Or.inl (Or.inl (by decide))) (wXc7 (q := q) (ad := ad) (κ := κ) (τ := τ)) (v := nI 16) rfl dX1_addHandler_15 ?_
  refine lv_icmp_ge (tgt := 39) hx hb dX1_addHandler_16 (by decide) (fun c_ => absurd c_ (by rw [h0]; exact nI_ge hcap (by decide))) (fun _ => ?_)
  refine lv_aload_n hx hb dX1_addHandler_19 rfl (lv_at hl 0 rfl) ?_
  refine r_get hC hw rk1 in_X1_addHandler_1 1 (Or.inl (Or.inl (by decide))) (wXc1 (q := q) (ad := ad) (κ := κ) (τ := τ)) 1 (by decide) lk_X1_addHandler_19 (v := .ref (ad 7)) rfl dX1_addHandler_20 ?_
  refine lv_aload_n hx hb dX1_addHandler_23 rfl (lv_at hl 0 rfl) ?_
  refine r_get hC hw rk1 in_X1_addHandler_1 1 (Or.inl (Or.inl (by decide))) (wXc1 (q := q) (ad := ad) (κ := κ) (τ := τ)) 3 (by decide) lk_X1_addHandler_27 (v := .int (sI κ 1)) rfl dX1_addHandler_24 ?_
  refine lv_aload_n hx hb dX1_addHandler_27 rfl (lv_at hl 1 rfl) ?_
  refine r_aast hC hw 5 rk0 rfl 7 (Or.inl (Or.inl (by decide))) (wXc7 (q := q) (ad := ad) (κ := κ) (τ := τ)) (by rw [h0]; exact vp_in_nI (by omega) (by decide)) (600 + mn) (Or.inr rfl) hc_r dX1_addHandler_28 (fun H locs hw => ?_)
  rw [show (sI κ 1).toNatClampNeg = mn by rw [h0]; exact nI_clamp (by omega)] at hw
  refine lv_aload_n hx hb dX1_addHandler_29 rfl (lv_at hl 0 rfl) ?_
  refine lv_dup hx hb dX1_addHandler_30 rfl ?_
  refine r_get hC hw rk1 in_X1_addHandler_1 1 (Or.inl (Or.inl (by decide))) (wXc1 (q := q) (ad := ad) (κ := κ) (τ := τ)) 3 (by decide) lk_X1_addHandler_27 (v := .int (sI κ 1)) rfl dX1_addHandler_31 ?_
  refine lv_iconst (v := 1) hx hb dX1_addHandler_34 (by decide) ?_
  refine lv_iadd hx hb dX1_addHandler_35 ?_
  refine r_topv (y := .int (nI (mn + 1))) (by rw [h0, nI_1]) ?_
  refine r_put hC hw rk1 in_X1_addHandler_1 1 (Or.inl (Or.inl (by decide))) (wXc1 (q := q) (ad := ad) (κ := κ) (τ := τ)) 3 (by decide) lk_X1_addHandler_27 rfl rfl rfl (Nat.le_of_ble_eq_true rfl) dX1_addHandler_36 (fun H locs hw => ?_)
  replace hw := xAH h0 hcap hw
  refine lv_aload_n hx hb dX1_addHandler_39 rfl (lv_at hl 0 rfl) ?_
  refine r_get hC hw rk1 in_X1_addHandler_1 1 (wXl 1 (by decide)) wXc1 3 (by decide) lk_X1_addHandler_27 (v := .int (nI (mn + 1))) rfl dX1_addHandler_40 ?_
  exact r_iret hC hr hlk hw () rfl rfl (Nat.le_of_ble_eq_true rfl) (Nat.le_of_ble_eq_true rfl) dX1_addHandler_43

theorem putR_n {κ : KS} {t : Nat → Int32} {op xa xb xc : Int32} (h : ¬ fitP op xa xb xc) : putR κ t op xa xb xc = (-1, (κ, t)) := by
  unfold putR
  by_cases h1 : pIn op 0 73
  · rw [if_pos h1]
    by_cases h2 : tld (dg (aN op) / 100) xa = true
    · rw [if_pos h2]
      by_cases h3 : tld (dg (aN op) / 10 % 10) xb = true
      · rw [if_pos h3]
        by_cases h4 : tld (dg (aN op) % 10) xc = true
        · exact absurd ⟨h1, h2, h3, h4⟩ h
        · rw [if_neg h4]
      · rw [if_neg h3]
    · rw [if_neg h2]
  · rw [if_neg h1]
theorem putR_f {κ : KS} {t : Nat → Int32} {op xa xb xc : Int32} (h : fitP op xa xb xc) (hc : sI κ 0 = 150) : putR κ t op xa xb xc = (-2, (κ, t)) := by
  unfold putR
  rw [if_pos h.1, if_pos h.2.1, if_pos h.2.2.1, if_pos h.2.2.2, if_pos hc]
theorem putR_p {κ : KS} {t : Nat → Int32} {op xa xb xc : Int32} {mn : Nat} (h0 : sI κ 0 = nI mn) (hcap : mn < 150) (h : fitP op xa xb xc) : (nI (mn + 1), (uI (s4 (uI κ 3 0) 0 mn op xa xb xc) 0 (nI (mn + 1)), t)) = putR κ t op xa xb xc := by
  have hn : ¬ sI κ 0 = 150 := by
    intro q
    rw [h0] at q
    have q2 : aN (nI mn) = 150 := by rw [q]; rfl
    rw [show aN (nI mn) = mn from nI_clamp (by omega)] at q2
    omega
  have a0 : aN (4 * sI κ 0) = 4 * mn := by rw [h0, show (4 : Int32) = nI 4 from rfl, pk_mul]; exact nI_clamp (by omega)
  have a1 : aN (4 * sI κ 0 + 1) = 4 * mn + 1 := by rw [h0, show (4 : Int32) = nI 4 from rfl, pk_mul, nI_1]; exact nI_clamp (by omega)
  have a2 : aN (4 * sI κ 0 + 2) = 4 * mn + 2 := by rw [h0, show (4 : Int32) = nI 4 from rfl, pk_mul, show (2 : Int32) = nI 2 from rfl, nI_add]; exact nI_clamp (by omega)
  have a3 : aN (4 * sI κ 0 + 3) = 4 * mn + 3 := by rw [h0, show (4 : Int32) = nI 4 from rfl, pk_mul, show (3 : Int32) = nI 3 from rfl, nI_add]; exact nI_clamp (by omega)
  unfold putR
  rw [if_pos h.1, if_pos h.2.1, if_pos h.2.2.1, if_pos h.2.2.2, if_neg hn]
  unfold putK
  rw [a0, a1, a2, a3, h0, nI_1, s4_uI, uI_comm _ (show (3 : Nat) ≠ 0 by decide)]
  rfl
theorem full_S {B M : Nat} {κ : KS} {th : Int32} (h : INV B M κ th) (hc : 150 ≤ sI κ 0) : sI κ 0 = 150 := by
  obtain ⟨mn, hmn, e, _⟩ := h.i0
  rw [e] at hc ⊢
  have := (nI_leI (by decide) (by omega)).mp (show nI 150 ≤ nI mn from hc)
  rw [show mn = 150 by omega]; rfl
theorem room_S {B M : Nat} {κ : KS} {th : Int32} (h : INV B M κ th) (hc : sI κ 0 < 150) : ∃ mn, sI κ 0 = nI mn ∧ mn < 150 := by
  obtain ⟨mn, hmn, e, _⟩ := h.i0
  rw [e] at hc
  exact ⟨mn, e, (nI_ltI (by omega) (by decide)).mp (show nI mn < nI 150 from hc)⟩
theorem cap_S {B M : Nat} {κ : KS} {th : Int32} (h : INV B M κ th) : aN (sI κ 1) ≤ 16 := by
  obtain ⟨hn, h16, e, _⟩ := h.i1
  rw [e, show aN (nI hn) = hn from nI_clamp (by omega)]; exact h16
theorem PR_S {ad ad2 : Nat → Nat} {κ : KS} {τ : TAU} {mn : Nat} (h0 : sI κ 0 = nI mn) (hcap : mn < 150) (hP : PR ad κ τ) (hag : ∀ i, lvX (uI κ 3 0) i → ad2 i = ad i) {o a b c : Int32} : PR ad2 (uI (s4 (uI κ 3 0) 0 mn o a b c) 0 (nI (mn + 1))) (va_up τ.1 mn (some (ad2 (400 + mn))), τ.2) := by
  obtain ⟨⟨m0, h1, h2, h3⟩, hn, h4, h5, h6⟩ := hP
  have em : m0 = mn := by
    rw [h0] at h2
    have e : aN (nI mn) = aN (nI m0) := by rw [h2]
    rw [show aN (nI mn) = mn from nI_clamp (by omega), show aN (nI m0) = m0 from nI_clamp (by omega)] at e
    exact e.symm
  subst em
  refine ⟨⟨m0 + 1, by omega, rfl, fun k hk => ?_⟩, hn, h4, h5, fun k hk => ?_⟩
  · show va_up τ.1 m0 (some (ad2 (400 + m0))) k = _
    by_cases e : k = m0
    · rw [e, va_up_self]
    · rw [va_up_ne _ _ e, h3 k (by omega), hag (400 + k) (Or.inr (Or.inr (Or.inl ⟨by omega, by show _ < 400 + aN (sI κ 0); rw [h0, show aN (nI m0) = m0 from nI_clamp (by omega)]; omega⟩)))]
  · show τ.2.1 k = _
    rw [h6 k hk, hag (600 + k) (Or.inr (Or.inr (Or.inr ⟨by omega, by show _ < 600 + aN (sI κ 1); rw [h5, show aN (nI hn) = hn from nI_clamp (by omega)]; omega⟩)))]
set_option maxHeartbeats 4000000 in
set_option maxRecDepth 100000 in
theorem c_X8_put (l : Launch) {D : va_G} {q : Nat → ClassId} {ad : Nat → Nat} {κ : KS} {τ : TAU} (sz : Nat) {B M : Nat} {th : Int32} (hI : INV B M κ th) (hFa : WFa κ τ (aN (sI κ 2))) (hP : PR ad κ τ) (hWT : WTk κ τ) (t : Nat → Int32) (hRL : RLk κ t τ) (op xa xb xc : Int32) : Met l yX8_put wsX8_put (rmc 3 65 1 4) (va_Pc [.ref (ad 0), .int op, .int xa, .int xb, .int xc] (rPreZ D q (wX q ad κ τ) sz)) (va_Qi (fun (r : Int32) (u : KS × TAU × (Nat → Nat)) => (r, (u.1, t)) = putR κ t op xa xb xc ∧ RLk u.1 t u.2.1 ∧ PR u.2.2 u.1 u.2.1 ∧ WTk u.1 u.2.1 ∧ ∀ j, j < 15 → u.2.2 j = ad j) (fun (u : KS × TAU × (Nat → Nat)) tt => rPo D (rA (wX q ad κ τ) sz) (wX q u.2.2 u.1 u.2.1) tt) (rA (wX q ad κ τ) sz)) 1 4 (rA (wX q ad κ τ) sz) := by
  refine r_startZ (cc := cX8_put) (maxL := 5) (ret := (some .int)) (by decide) rfl (Nat.le_of_ble_eq_true rfl) ?_
  intro p e s m below meth c ls hC hr hlk hnm hsz hw hZ hl
  have hx := hC.1
  have hb := hC.2.1
  have hl : lv_has ls 5 [(0, .ref (ad 0)), (1, .int op), (2, .int xa), (3, .int xb), (4, .int xc)] := hl
  have hoc := cap_S hI
  refine lv_iload_n hx hb dX8_put_0 rfl (lv_at hl 1 rfl) ?_
  refine lv_iload_n hx hb dX8_put_1 rfl (lv_at hl 2 rfl) ?_
  refine lv_iload_n hx hb dX8_put_2 rfl (lv_at hl 3 rfl) ?_
  refine lv_iload hx hb dX8_put_3 (lv_at hl 4 rfl) ?_
  refine r_ki hw (r_runSZ (rest := []) hC hw hZ (c_X8_fitsShape l _ _ op xa xb xc) 4 gX8_put_X8_fitsShape rfl rfl rfl (by decide +kernel) ⟨Nat.le_of_ble_eq_true rfl, Nat.le_of_ble_eq_true rfl⟩ rfl hl.1 rfl (Nat.le_of_ble_eq_true rfl) dX8_put_5 ⟨Nat.le_of_ble_eq_true rfl, Nat.le_of_ble_eq_true rfl⟩) (fun r_1 u_1 H locs h_1 hw => ?_)
  by_cases hfit : fitP op xa xb xc
  · rw [if_pos hfit] at h_1
    subst h_1
    refine lv_if_ne (tgt := 13) hx hb dX8_put_8 (by decide) (fun _ => ?_) (fun c_ => absurd c_ (by decide))
    refine lv_aload_n hx hb dX8_put_13 rfl (lv_at hl 0 rfl) ?_
    refine r_get hC hw rk8 in_X8_put_8 0 (wXl 0 (by decide)) wXc0 0 (by decide) lk_X8_put_10 (v := .ref (ad 1)) rfl dX8_put_14 ?_
    refine r_get hC hw rk1 in_X8_put_1 1 (wXl 1 (by decide)) wXc1 2 (by decide) lk_X8_put_36 (v := .int (sI κ 0)) rfl dX8_put_17 ?_
    refine lv_sipush (v := 150) hx hb dX8_put_20 (by decide) ?_
    refine lv_icmp_lt (tgt := 29) hx hb dX8_put_23 (by decide) (fun c_1 => ?_) (fun c_1 => ?_)
    · obtain ⟨mn, h0, hcap⟩ := room_S hI c_1
      refine lv_aload_n hx hb dX8_put_29 rfl (lv_at hl 0 rfl) ?_
      refine r_get hC hw rk8 in_X8_put_8 0 (wXl 0 (by decide)) wXc0 2 (by decide) lk_X8_put_28 (v := .ref (ad 3)) rfl dX8_put_30 ?_
      refine r_kv hw (r_runV (rest := []) hC hw 3 (c_X4_giveUp (ad := ad) l _) rk4 (wXl 3 (by decide)) wXc3 0 gX8_put_X4_giveUp rfl rfl rfl (by decide +kernel) ⟨Nat.le_of_ble_eq_true rfl, Nat.le_of_ble_eq_true rfl⟩ rfl hl.1 rfl (Nat.le_of_ble_eq_true rfl) dX8_put_33 ⟨Nat.le_of_ble_eq_true rfl, Nat.le_of_ble_eq_true rfl⟩) (fun u_4 H locs h_2 hw => ?_)
      subst h_2
      dsimp only at hw
      refine lv_aload_n hx hb dX8_put_36 rfl (lv_at hl 0 rfl) ?_
      refine r_get hC hw rk8 in_X8_put_8 0 (wXl 0 (by decide)) wXc0 0 (by decide) lk_X8_put_10 (v := .ref (ad 1)) rfl dX8_put_37 ?_
      have n_0 : Nl (wX q ad (uI κ 3 0) τ) (400 + mn) := nl_S h0 hcap (by rw [hI.mN]; exact hI.m60) hoc
      have kp : Kp (wX q ad (uI κ 3 0) τ) (wX q ad (uI κ 3 0) τ) (fun _ => False) (fun r => r = 400 + mn) := Kp.rf
      refine a_new hC hw rk5 in_X8_put_5 lk_X8_put_43 lki_X8_put_43 lkz_X8_put_43 (400 + mn) n_0 (fs := [.int 0, .int 0, .int 0, .int 0]) (by decide) (Nat.le_of_ble_eq_true rfl) (Nat.le_of_ble_eq_true rfl) dX8_put_40 (fun a0 W H hup hw => ?_)
      have k_0 := At.n hup
      replace kp := kp.n hup rfl n_0
      clear hup
      obtain ⟨kl_0, rfl, kc_0⟩ := k_0
      refine lv_dup hx hb dX8_put_43 rfl ?_
      refine lv_iload_n hx hb dX8_put_44 rfl (lv_at hl 1 rfl) ?_
      refine lv_iload_n hx hb dX8_put_45 rfl (lv_at hl 2 rfl) ?_
      refine lv_iload_n hx hb dX8_put_46 rfl (lv_at hl 3 rfl) ?_
      refine lv_iload hx hb dX8_put_47 (lv_at hl 4 rfl) ?_
      refine r_kv hw (r_runI (rest := [.ref (W.1 (400 + mn)), .ref (ad 1)]) hC hw (c_X5_init l W _ (400 + mn) op xa xb xc kl_0 kc_0) 4 gX8_put_X5_init rfl rfl rfl lkz_X8_put_45 lk_X8_put_45 lki_X8_put_45 rfl (by decide +kernel) ⟨Nat.le_of_ble_eq_true rfl, Nat.le_of_ble_eq_true rfl⟩ rfl hl.1 rfl (Nat.le_of_ble_eq_true rfl) dX8_put_49 ⟨Nat.le_of_ble_eq_true rfl, Nat.le_of_ble_eq_true rfl⟩) (fun W2 H locs hth hw => ?_)
      obtain ⟨kp2, k0⟩ := hth
      have hold : ∀ i, lvX (uI κ 3 0) i → W2.2.1 i ∧ W2.1 i = ad i ∧ W2.2.2 i = exX q ad (uI κ 3 0) τ i := by
        intro i hi
        have z := kp.1 i hi
        have z2 := kp2.1 i z.1
        have hne : ¬ i = 400 + mn := fun e => n_0 (by rw [← e]; exact hi)
        exact ⟨z2.1, z2.2.1.trans z.2.1, (z2.2.2 hne).trans (z.2.2 (fun h => h))⟩
      have hF2 : WFa (uI κ 3 0) τ M := by have z := hFa; rw [hI.mN] at z; exact z
      replace hw := xNS (κ := uI κ 3 0) (M := M) hI.mN hI.m60 hF2 h0 hcap hoc hold k0 hw
      have e0 : W.1 (400 + mn) = W2.1 (400 + mn) := (kp2.1 _ kl_0).2.1.symm
      have hagx : ∀ i, lvX (uI κ 3 0) i → W2.1 i = ad i := fun i hi => (hold i hi).2.1
      generalize hade : W2.1 = ad2 at hw e0 hagx
      have g1 : ad 1 = ad2 1 := (hagx 1 (Or.inl (by decide))).symm
      refine r_tops (y := [.ref (ad2 (400 + mn)), .ref (ad2 1)]) (by rw [e0, g1]) ?_
      refine r_ki hw (r_runV (rest := []) hC hw 1 (c_X1_addStep (ad := ad2) l _ h0 hcap (by show exX q ad2 _ τ (400 + mn) = _; exact exS (by omega))) rk1 (Or.inl (Or.inl (by decide))) (wXc1 (q := q) (ad := ad2) (κ := s4 (uI κ 3 0) 0 mn op xa xb xc) (τ := τ)) 1 gX8_put_X1_addStep rfl rfl rfl (by decide +kernel) ⟨Nat.le_of_ble_eq_true rfl, Nat.le_of_ble_eq_true rfl⟩ rfl hl.1 rfl (Nat.le_of_ble_eq_true rfl) dX8_put_52 ⟨Nat.le_of_ble_eq_true rfl, Nat.le_of_ble_eq_true rfl⟩) (fun r_1 u_1 H locs h_1 hw => ?_)
      subst h_1
      exact r_iret hC hr hlk hw (uI (s4 (uI κ 3 0) 0 mn op xa xb xc) 0 (nI (mn + 1)), (va_up τ.1 mn (some (ad2 (400 + mn))), τ.2), ad2) rfl ⟨putR_p h0 hcap hfit, (fun q => absurd q (show ¬ (0 : Int32) = 1 by decide)), PR_S h0 hcap hP hagx, hWT, fun j hj => hagx j (Or.inl hj)⟩ (Nat.le_of_ble_eq_true rfl) (Nat.le_of_ble_eq_true rfl) dX8_put_55
    · refine lv_bipush (v := (-2)) hx hb dX8_put_26 (by decide) ?_
      exact r_iret hC hr hlk hw (κ, τ, ad) rfl ⟨(putR_f hfit (full_S hI (Int32.not_lt.mp c_1))).symm, hRL, hP, hWT, fun _ _ => rfl⟩ (Nat.zero_le _) (Nat.zero_le _) dX8_put_28
  · rw [if_neg hfit] at h_1
    subst h_1
    refine lv_if_ne (tgt := 13) hx hb dX8_put_8 (by decide) (fun c_ => absurd (by decide) c_) (fun _ => ?_)
    refine lv_iconst (v := (-1)) hx hb dX8_put_11 (by decide) ?_
    exact r_iret hC hr hlk hw (κ, τ, ad) rfl ⟨(putR_n hfit).symm, hRL, hP, hWT, fun _ _ => rfl⟩ (Nat.zero_le _) (Nat.zero_le _) dX8_put_12

theorem hanR_n {κ : KS} {t : Nat → Int32} {xa xb xc xd : Int32} (h : ¬ (pIn xa 0 199 ∧ pIn xb 0 199 ∧ pIn xd 0 199)) : hanR κ t xa xb xc xd = (-1, (κ, t)) := by
  unfold hanR
  by_cases h1 : tld 6 xa = true
  · rw [if_pos h1]
    by_cases h2 : tld 6 xb = true
    · rw [if_pos h2]
      by_cases h3 : tld 6 xd = true
      · exact absurd ⟨of_decide_eq_true h1, of_decide_eq_true h2, of_decide_eq_true h3⟩ h
      · rw [if_neg h3]
    · rw [if_neg h2]
  · rw [if_neg h1]
theorem hanR_f {κ : KS} {t : Nat → Int32} {xa xb xc xd : Int32} (h : pIn xa 0 199 ∧ pIn xb 0 199 ∧ pIn xd 0 199) (hc : sI κ 1 = 16) : hanR κ t xa xb xc xd = (-2, (κ, t)) := by
  unfold hanR
  rw [if_pos (show tld 6 xa = true from decide_eq_true h.1), if_pos (show tld 6 xb = true from decide_eq_true h.2.1), if_pos (show tld 6 xd = true from decide_eq_true h.2.2), if_pos hc]
theorem hanR_p {κ : KS} {t : Nat → Int32} {xa xb xc xd : Int32} {mn : Nat} (h0 : sI κ 1 = nI mn) (hcap : mn < 16) (h : pIn xa 0 199 ∧ pIn xb 0 199 ∧ pIn xd 0 199) : (nI (mn + 1), (uI (s4 (uI κ 3 0) 1 mn xa xb xc xd) 1 (nI (mn + 1)), t)) = hanR κ t xa xb xc xd := by
  have hn : ¬ sI κ 1 = 16 := by
    intro q
    rw [h0] at q
    have q2 : aN (nI mn) = 16 := by rw [q]; rfl
    rw [show aN (nI mn) = mn from nI_clamp (by omega)] at q2
    omega
  have a0 : aN (4 * sI κ 1) = 4 * mn := by rw [h0, show (4 : Int32) = nI 4 from rfl, pk_mul]; exact nI_clamp (by omega)
  have a1 : aN (4 * sI κ 1 + 1) = 4 * mn + 1 := by rw [h0, show (4 : Int32) = nI 4 from rfl, pk_mul, nI_1]; exact nI_clamp (by omega)
  have a2 : aN (4 * sI κ 1 + 2) = 4 * mn + 2 := by rw [h0, show (4 : Int32) = nI 4 from rfl, pk_mul, show (2 : Int32) = nI 2 from rfl, nI_add]; exact nI_clamp (by omega)
  have a3 : aN (4 * sI κ 1 + 3) = 4 * mn + 3 := by rw [h0, show (4 : Int32) = nI 4 from rfl, pk_mul, show (3 : Int32) = nI 3 from rfl, nI_add]; exact nI_clamp (by omega)
  unfold hanR
  rw [if_pos (show tld 6 xa = true from decide_eq_true h.1), if_pos (show tld 6 xb = true from decide_eq_true h.2.1), if_pos (show tld 6 xd = true from decide_eq_true h.2.2), if_neg hn]
  unfold hanK
  rw [a0, a1, a2, a3, h0, nI_1, s4_uI, uI_comm _ (show (3 : Nat) ≠ 1 by decide)]
  rfl
theorem full_H {B M : Nat} {κ : KS} {th : Int32} (h : INV B M κ th) (hc : 16 ≤ sI κ 1) : sI κ 1 = 16 := by
  obtain ⟨mn, hmn, e, _⟩ := h.i1
  rw [e] at hc ⊢
  have := (nI_leI (by decide) (by omega)).mp (show nI 16 ≤ nI mn from hc)
  rw [show mn = 16 by omega]; rfl
theorem room_H {B M : Nat} {κ : KS} {th : Int32} (h : INV B M κ th) (hc : sI κ 1 < 16) : ∃ mn, sI κ 1 = nI mn ∧ mn < 16 := by
  obtain ⟨mn, hmn, e, _⟩ := h.i1
  rw [e] at hc
  exact ⟨mn, e, (nI_ltI (by omega) (by decide)).mp (show nI mn < nI 16 from hc)⟩
theorem cap_H {B M : Nat} {κ : KS} {th : Int32} (h : INV B M κ th) : aN (sI κ 0) ≤ 150 := by
  obtain ⟨hn, h16, e, _⟩ := h.i0
  rw [e, show aN (nI hn) = hn from nI_clamp (by omega)]; exact h16
theorem PR_H {ad ad2 : Nat → Nat} {κ : KS} {τ : TAU} {mn : Nat} (h0 : sI κ 1 = nI mn) (hcap : mn < 16) (hP : PR ad κ τ) (hag : ∀ i, lvX (uI κ 3 0) i → ad2 i = ad i) {o a b c : Int32} : PR ad2 (uI (s4 (uI κ 3 0) 1 mn o a b c) 1 (nI (mn + 1))) (τ.1, va_up τ.2.1 mn (some (ad2 (600 + mn))), τ.2.2) := by
  obtain ⟨⟨m0, h1, h2, h3⟩, hn, h4, h5, h6⟩ := hP
  have em : hn = mn := by
    rw [h0] at h5
    have e : aN (nI mn) = aN (nI hn) := by rw [h5]
    rw [show aN (nI mn) = mn from nI_clamp (by omega), show aN (nI hn) = hn from nI_clamp (by omega)] at e
    exact e.symm
  subst em
  refine ⟨⟨m0, h1, h2, fun k hk => ?_⟩, hn + 1, by omega, rfl, fun k hk => ?_⟩
  · show τ.1 k = _
    rw [h3 k hk, hag (400 + k) (Or.inr (Or.inr (Or.inl ⟨by omega, by show _ < 400 + aN (sI κ 0); rw [h2, show aN (nI m0) = m0 from nI_clamp (by omega)]; omega⟩)))]
  · show va_up τ.2.1 hn (some (ad2 (600 + hn))) k = _
    by_cases e : k = hn
    · rw [e, va_up_self]
    · rw [va_up_ne _ _ e, h6 k (by omega), hag (600 + k) (Or.inr (Or.inr (Or.inr ⟨by omega, by show _ < 600 + aN (sI κ 1); rw [h0, show aN (nI hn) = hn from nI_clamp (by omega)]; omega⟩)))]
set_option maxHeartbeats 4000000 in
set_option maxRecDepth 100000 in
theorem c_X8_handler (l : Launch) {D : va_G} {q : Nat → ClassId} {ad : Nat → Nat} {κ : KS} {τ : TAU} (sz : Nat) {B M : Nat} {th : Int32} (hI : INV B M κ th) (hFa : WFa κ τ (aN (sI κ 2))) (hP : PR ad κ τ) (hWT : WTk κ τ) (t : Nat → Int32) (hRL : RLk κ t τ) (xa xb xc xd : Int32) : Met l yX8_handler wsX8_handler (rmc 2 36 1 4) (va_Pc [.ref (ad 0), .int xa, .int xb, .int xc, .int xd] (rPre D q (wX q ad κ τ) sz)) (va_Qi (fun (r : Int32) (u : KS × TAU × (Nat → Nat)) => (r, (u.1, t)) = hanR κ t xa xb xc xd ∧ RLk u.1 t u.2.1 ∧ PR u.2.2 u.1 u.2.1 ∧ WTk u.1 u.2.1 ∧ ∀ j, j < 15 → u.2.2 j = ad j) (fun (u : KS × TAU × (Nat → Nat)) tt => rPo D (rA (wX q ad κ τ) sz) (wX q u.2.2 u.1 u.2.1) tt) (rA (wX q ad κ τ) sz)) 1 4 (rA (wX q ad κ τ) sz) := by
  refine r_start (cc := cX8_handler) (maxL := 5) (ret := (some .int)) (by decide) rfl (Nat.le_of_ble_eq_true rfl) ?_
  intro p e s m below meth c ls hC hr hlk hnm hsz hw hl
  have hx := hC.1
  have hb := hC.2.1
  have hl : lv_has ls 5 [(0, .ref (ad 0)), (1, .int xa), (2, .int xb), (3, .int xc), (4, .int xd)] := hl
  have hoc := cap_H hI
  refine lv_iload_n hx hb dX8_handler_0 rfl (lv_at hl 1 rfl) ?_
  refine r_ki hw (r_runS (rest := []) hC hw (c_X8_isPlace l _ _ xa) 1 gX8_handler_X8_isPlace rfl rfl rfl (by decide +kernel) ⟨Nat.le_of_ble_eq_true rfl, Nat.le_of_ble_eq_true rfl⟩ rfl hl.1 rfl (Nat.le_of_ble_eq_true rfl) dX8_handler_1 ⟨Nat.le_of_ble_eq_true rfl, Nat.le_of_ble_eq_true rfl⟩) (fun r_2 u_3 H locs h_1 hw => ?_)
  by_cases c_4 : pIn xa 0 199
  · rw [if_pos c_4] at h_1
    subst h_1
    refine lv_if_eq (tgt := 22) hx hb dX8_handler_4 (by decide) (fun c_ => absurd c_ (by decide)) (fun _ => ?_)
    refine lv_iload_n hx hb dX8_handler_7 rfl (lv_at hl 2 rfl) ?_
    refine r_ki hw (r_runS (rest := []) hC hw (c_X8_isPlace l _ _ xb) 1 gX8_handler_X8_isPlace rfl rfl rfl (by decide +kernel) ⟨Nat.le_of_ble_eq_true rfl, Nat.le_of_ble_eq_true rfl⟩ rfl hl.1 rfl (Nat.le_of_ble_eq_true rfl) dX8_handler_8 ⟨Nat.le_of_ble_eq_true rfl, Nat.le_of_ble_eq_true rfl⟩) (fun r_6 u_7 H locs h_5 hw => ?_)
    by_cases c_8 : pIn xb 0 199
    · rw [if_pos c_8] at h_5
      subst h_5
      refine lv_if_eq (tgt := 22) hx hb dX8_handler_11 (by decide) (fun c_ => absurd c_ (by decide)) (fun _ => ?_)
      refine lv_iload hx hb dX8_handler_14 (lv_at hl 4 rfl) ?_
      refine r_ki hw (r_runS (rest := []) hC hw (c_X8_isPlace l _ _ xd) 1 gX8_handler_X8_isPlace rfl rfl rfl (by decide +kernel) ⟨Nat.le_of_ble_eq_true rfl, Nat.le_of_ble_eq_true rfl⟩ rfl hl.1 rfl (Nat.le_of_ble_eq_true rfl) dX8_handler_16 ⟨Nat.le_of_ble_eq_true rfl, Nat.le_of_ble_eq_true rfl⟩) (fun r_10 u_11 H locs h_9 hw => ?_)
      by_cases c_12 : pIn xd 0 199
      · rw [if_pos c_12] at h_9
        subst h_9
        refine lv_if_ne (tgt := 24) hx hb dX8_handler_19 (by decide) (fun _ => ?_) (fun c_ => absurd c_ (by decide))
        refine lv_aload_n hx hb dX8_handler_24 rfl (lv_at hl 0 rfl) ?_
        refine r_get hC hw rk8 in_X8_handler_8 0 (wXl 0 (by decide)) wXc0 0 (by decide) lk_X8_handler_10 (v := .ref (ad 1)) rfl dX8_handler_25 ?_
        refine r_get hC hw rk1 in_X8_handler_1 1 (wXl 1 (by decide)) wXc1 3 (by decide) lk_X8_handler_56 (v := .int (sI κ 1)) rfl dX8_handler_28 ?_
        refine lv_bipush (v := 16) hx hb dX8_handler_31 (by decide) ?_
        refine lv_icmp_lt (tgt := 39) hx hb dX8_handler_33 (by decide) (fun c_13 => ?_) (fun c_13 => ?_)
        · obtain ⟨mn, h0, hcap⟩ := room_H hI c_13
          refine lv_aload_n hx hb dX8_handler_39 rfl (lv_at hl 0 rfl) ?_
          refine r_get hC hw rk8 in_X8_handler_8 0 (wXl 0 (by decide)) wXc0 2 (by decide) lk_X8_handler_28 (v := .ref (ad 3)) rfl dX8_handler_40 ?_
          refine r_kv hw (r_runV (rest := []) hC hw 3 (c_X4_giveUp (ad := ad) l _) rk4 (wXl 3 (by decide)) wXc3 0 gX8_handler_X4_giveUp rfl rfl rfl (by decide +kernel) ⟨Nat.le_of_ble_eq_true rfl, Nat.le_of_ble_eq_true rfl⟩ rfl hl.1 rfl (Nat.le_of_ble_eq_true rfl) dX8_handler_43 ⟨Nat.le_of_ble_eq_true rfl, Nat.le_of_ble_eq_true rfl⟩) (fun u_16 H locs h_14 hw => ?_)
          subst h_14
          dsimp only at hw
          refine lv_aload_n hx hb dX8_handler_46 rfl (lv_at hl 0 rfl) ?_
          refine r_get hC hw rk8 in_X8_handler_8 0 (wXl 0 (by decide)) wXc0 0 (by decide) lk_X8_handler_10 (v := .ref (ad 1)) rfl dX8_handler_47 ?_
          have n_0 : Nl (wX q ad (uI κ 3 0) τ) (600 + mn) := nl_H h0 hcap (by rw [hI.mN]; exact hI.m60) hoc
          have kp : Kp (wX q ad (uI κ 3 0) τ) (wX q ad (uI κ 3 0) τ) (fun _ => False) (fun r => r = 600 + mn) := Kp.rf
          refine a_new hC hw rk0 in_X8_handler_0 lk_X8_handler_59 lki_X8_handler_59 lkz_X8_handler_59 (600 + mn) n_0 (fs := [.int 0, .int 0, .int 0, .int 0]) (by decide) (Nat.le_of_ble_eq_true rfl) (Nat.le_of_ble_eq_true rfl) dX8_handler_50 (fun a0 W H hup hw => ?_)
          have k_0 := At.n hup
          replace kp := kp.n hup rfl n_0
          clear hup
          obtain ⟨kl_0, rfl, kc_0⟩ := k_0
          refine lv_dup hx hb dX8_handler_53 rfl ?_
          refine lv_iload_n hx hb dX8_handler_54 rfl (lv_at hl 1 rfl) ?_
          refine lv_iload_n hx hb dX8_handler_55 rfl (lv_at hl 2 rfl) ?_
          refine lv_iload_n hx hb dX8_handler_56 rfl (lv_at hl 3 rfl) ?_
          refine lv_iload hx hb dX8_handler_57 (lv_at hl 4 rfl) ?_
          refine r_kv hw (r_runI (rest := [.ref (W.1 (600 + mn)), .ref (ad 1)]) hC hw (c_X0_init l W _ (600 + mn) xa xb xc xd kl_0 kc_0) 4 gX8_handler_X0_init rfl rfl rfl lkz_X8_handler_61 lk_X8_handler_61 lki_X8_handler_61 rfl (by decide +kernel) ⟨Nat.le_of_ble_eq_true rfl, Nat.le_of_ble_eq_true rfl⟩ rfl hl.1 rfl (Nat.le_of_ble_eq_true rfl) dX8_handler_59 ⟨Nat.le_of_ble_eq_true rfl, Nat.le_of_ble_eq_true rfl⟩) (fun W2 H locs hth hw => ?_)
          obtain ⟨kp2, k0⟩ := hth
          have hold : ∀ i, lvX (uI κ 3 0) i → W2.2.1 i ∧ W2.1 i = ad i ∧ W2.2.2 i = exX q ad (uI κ 3 0) τ i := by
            intro i hi
            have z := kp.1 i hi
            have z2 := kp2.1 i z.1
            have hne : ¬ i = 600 + mn := fun e => n_0 (by rw [← e]; exact hi)
            exact ⟨z2.1, z2.2.1.trans z.2.1, (z2.2.2 hne).trans (z.2.2 (fun h => h))⟩
          have hF2 : WFa (uI κ 3 0) τ M := by have z := hFa; rw [hI.mN] at z; exact z
          replace hw := xNH (κ := uI κ 3 0) (M := M) hI.mN hI.m60 hF2 h0 hcap hoc hold k0 hw
          have e0 : W.1 (600 + mn) = W2.1 (600 + mn) := (kp2.1 _ kl_0).2.1.symm
          have hagx : ∀ i, lvX (uI κ 3 0) i → W2.1 i = ad i := fun i hi => (hold i hi).2.1
          generalize hade : W2.1 = ad2 at hw e0 hagx
          have g1 : ad 1 = ad2 1 := (hagx 1 (Or.inl (by decide))).symm
          refine r_tops (y := [.ref (ad2 (600 + mn)), .ref (ad2 1)]) (by rw [e0, g1]) ?_
          refine r_ki hw (r_runV (rest := []) hC hw 1 (c_X1_addHandler (ad := ad2) l _ h0 hcap (by show exX q ad2 _ τ (600 + mn) = _; exact exH)) rk1 (Or.inl (Or.inl (by decide))) (wXc1 (q := q) (ad := ad2) (κ := s4 (uI κ 3 0) 1 mn xa xb xc xd) (τ := τ)) 1 gX8_handler_X1_addHandler rfl rfl rfl (by decide +kernel) ⟨Nat.le_of_ble_eq_true rfl, Nat.le_of_ble_eq_true rfl⟩ rfl hl.1 rfl (Nat.le_of_ble_eq_true rfl) dX8_handler_62 ⟨Nat.le_of_ble_eq_true rfl, Nat.le_of_ble_eq_true rfl⟩) (fun r_1 u_1 H locs h_1 hw => ?_)
          subst h_1
          exact r_iret hC hr hlk hw (uI (s4 (uI κ 3 0) 1 mn xa xb xc xd) 1 (nI (mn + 1)), (τ.1, va_up τ.2.1 mn (some (ad2 (600 + mn))), τ.2.2), ad2) rfl ⟨hanR_p h0 hcap ⟨c_4, c_8, c_12⟩, (fun q => absurd q (show ¬ (0 : Int32) = 1 by decide)), PR_H h0 hcap hP hagx, hWT, fun j hj => hagx j (Or.inl hj)⟩ (Nat.le_of_ble_eq_true rfl) (Nat.le_of_ble_eq_true rfl) dX8_handler_65
        · refine lv_bipush (v := (-2)) hx hb dX8_handler_36 (by decide) ?_
          exact r_iret hC hr hlk hw (κ, τ, ad) rfl ⟨(hanR_f ⟨c_4, c_8, c_12⟩ (full_H hI (Int32.not_lt.mp c_13))).symm, hRL, hP, hWT, fun _ _ => rfl⟩ (Nat.zero_le _) (Nat.zero_le _) dX8_handler_38
      · rw [if_neg c_12] at h_9
        subst h_9
        refine lv_if_ne (tgt := 24) hx hb dX8_handler_19 (by decide) (fun c_ => absurd (by decide) c_) (fun _ => ?_)
        refine lv_iconst (v := (-1)) hx hb dX8_handler_22 (by decide) ?_
        exact r_iret hC hr hlk hw (κ, τ, ad) rfl ⟨(hanR_n (fun h => c_12 h.2.2)).symm, hRL, hP, hWT, fun _ _ => rfl⟩ (Nat.zero_le _) (Nat.zero_le _) dX8_handler_23
    · rw [if_neg c_8] at h_5
      subst h_5
      refine lv_if_eq (tgt := 22) hx hb dX8_handler_11 (by decide) (fun _ => ?_) (fun c_ => absurd (by decide) c_)
      refine lv_iconst (v := (-1)) hx hb dX8_handler_22 (by decide) ?_
      exact r_iret hC hr hlk hw (κ, τ, ad) rfl ⟨(hanR_n (fun h => c_8 h.2.1)).symm, hRL, hP, hWT, fun _ _ => rfl⟩ (Nat.zero_le _) (Nat.zero_le _) dX8_handler_23
  · rw [if_neg c_4] at h_1
    subst h_1
    refine lv_if_eq (tgt := 22) hx hb dX8_handler_4 (by decide) (fun _ => ?_) (fun c_ => absurd (by decide) c_)
    refine lv_iconst (v := (-1)) hx hb dX8_handler_22 (by decide) ?_
    exact r_iret hC hr hlk hw (κ, τ, ad) rfl ⟨(hanR_n (fun h => c_4 h.1)).symm, hRL, hP, hWT, fun _ _ => rfl⟩ (Nat.zero_le _) (Nat.zero_le _) dX8_handler_23

