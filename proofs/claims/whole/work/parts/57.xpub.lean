theorem toldF {κ : KS} {i0 : Int32} {n : Nat} (h7 : sI κ 7 = nI n) (hn : n < 2 ^ 31) : (if 0 ≤ i0 then (if (sI κ 7) ≤ i0 then 0 else (if (nI 200) ≤ i0 then 0 else sA κ 10 (aN i0))) else 0) = (if 200 ≤ (sI κ 7) then (if pIn i0 0 199 then sA κ 10 (aN i0) else 0) else (if pIn i0 0 ((sI κ 7) - 1) then sA κ 10 (aN i0) else 0)) := by
  rw [h7]
  by_cases h0 : 0 ≤ i0
  · rw [if_pos h0]
    obtain ⟨j, hj, rfl⟩ := nI_of (Int32.not_lt.mpr h0)
    have e200 : (200 : Int32) = nI 200 := rfl
    have e199 : (199 : Int32) = nI 199 := rfl
    have e0 : (0 : Int32) = nI 0 := rfl
    have p199 : pIn (nI j) 0 199 ↔ j < 200 := by
      constructor
      · intro h
        rcases Nat.lt_or_ge j 200 with q | q
        · exact q
        · exact absurd (nI_lt (show 199 < j by omega) hj) h.2
      · intro h
        exact ⟨nI_nn2 hj, fun q => by
          have := (nI_ltI (by decide) hj).mp (show nI 199 < nI j from q)
          omega⟩
    by_cases h2 : 200 ≤ nI n
    · have hn200 : 200 ≤ n := (nI_leI (by decide) hn).mp h2
      rw [if_pos h2]
      by_cases h3 : nI n ≤ nI j
      · have := (nI_leI hn hj).mp h3
        rw [if_pos h3, if_neg (fun q => by have := p199.mp q; omega)]
      · rw [if_neg h3]
        by_cases h4 : nI 200 ≤ nI j
        · have := (nI_leI (by decide) hj).mp h4
          rw [if_pos h4, if_neg (fun q => by have := p199.mp q; omega)]
        · rw [if_neg h4, if_pos (p199.mpr (by
            rcases Nat.lt_or_ge j 200 with q | q
            · exact q
            · exact absurd (nI_le q hj) h4))]
    · have hn200 : n < 200 := by
        rcases Nat.lt_or_ge n 200 with q | q
        · exact q
        · exact absurd (nI_le q hn) h2
      rw [if_neg h2]
      by_cases h3 : nI n ≤ nI j
      · have hle := (nI_leI hn hj).mp h3
        rw [if_pos h3, if_neg]
        intro q
        cases n with
        | zero => exact q.2 (Int32.lt_of_lt_of_le (b := 0) (by decide) (Int32.not_lt.mp q.1))
        | succ m =>
          rw [nI_pred] at q
          exact q.2 (nI_lt (by omega) hj)
      · have hlt : j < n := by
          rcases Nat.lt_or_ge j n with q | q
          · exact q
          · exact absurd (nI_le q hj) h3
        rw [if_neg h3, if_neg (fun q => by have := (nI_leI (by decide) hj).mp q; omega), if_pos]
        refine ⟨nI_nn2 hj, ?_⟩
        cases n with
        | zero => omega
        | succ m =>
          rw [nI_pred]
          exact fun q => by have := (nI_ltI (by omega) hj).mp q; omega
  · rw [if_neg h0]
    have hp : ∀ hi, ¬ pIn i0 0 hi := fun hi q => h0 (Int32.not_lt.mp q.1)
    rw [if_neg (hp _), if_neg (hp _), ite_self]
set_option maxHeartbeats 4000000 in
set_option maxRecDepth 100000 in
theorem c_X8_told (l : Launch) {D : va_G} {q : Nat → ClassId} {ad : Nat → Nat} {κ : KS} {τ : TAU} (sz : Nat) {B M : Nat} {th : Int32} (hI : INV B M κ th) (hB : B < 2 ^ 31) (i0 : Int32) : Met l yX8_told wsX8_told (rmz 1 21) (va_Pc [.ref (ad 0), .int i0] (rPre D q (wX q ad κ τ) sz)) (va_Qi (fun (r : Int32) (u : Unit) => r = if 200 ≤ (sI κ 7) then (if pIn i0 0 199 then sA κ 10 (aN i0) else 0) else (if pIn i0 0 ((sI κ 7) - 1) then sA κ 10 (aN i0) else 0)) (fun (u : Unit) tt => rPo D (rA (wX q ad κ τ) sz) (wX q ad κ τ) tt) (rA (wX q ad κ τ) sz)) 0 0 (rA (wX q ad κ τ) sz) := by
  refine r_start (cc := cX8_told) (maxL := 2) (ret := (some .int)) (by decide) rfl (Nat.le_of_ble_eq_true rfl) ?_
  intro p e s m below meth c ls hC hr hlk hnm hsz hw hl
  have hx := hC.1
  have hb := hC.2.1
  have hl : lv_has ls 2 [(0, .ref (ad 0)), (1, .int i0)] := hl
  refine lv_aload_n hx hb dX8_told_0 rfl (lv_at hl 0 rfl) ?_
  refine r_get hC hw rk8 in_X8_told_8 0 (wXl 0 (by decide)) wXc0 2 (by decide) lk_X8_told_28 (v := .ref (ad 3)) rfl dX8_told_1 ?_
  refine lv_iload_n hx hb dX8_told_4 rfl (lv_at hl 1 rfl) ?_
  refine r_ki hw (r_runV (rest := []) hC hw 3 (c_X4_getTold (ad := ad) l _ i0) rk4 (wXl 3 (by decide)) wXc3 1 gX8_told_X4_getTold rfl rfl rfl (by decide +kernel) ⟨Nat.le_of_ble_eq_true rfl, Nat.le_of_ble_eq_true rfl⟩ rfl hl.1 rfl (Nat.le_of_ble_eq_true rfl) dX8_told_5 ⟨Nat.le_of_ble_eq_true rfl, Nat.le_of_ble_eq_true rfl⟩) (fun r_2 u_3 H locs h_1 hw => ?_)
  have htl := h_1
  exact r_iret hC hr hlk hw () rfl (htl.trans (by obtain ⟨n, hn, e⟩ := hI.i8; exact toldF e (by omega))) (Nat.le_of_ble_eq_true rfl) (Nat.le_of_ble_eq_true rfl) dX8_told_8

theorem out10 {x : Int32} (h2 : ¬ x = 2) (h3 : ¬ x = 3) (h4 : ¬ x = 4) (h5 : ¬ x = 5) (h6 : ¬ x = 6) (h7 : ¬ x = 7) (h8 : ¬ x = 8) (h9 : ¬ x = 9) (h10 : ¬ x = 10) : x.toInt < 2 ∨ 10 < x.toInt := by
  by_cases q : x < 2
  · exact Or.inl (Int32.lt_iff_toInt_lt.mp q)
  · by_cases q2 : 10 < x
    · exact Or.inr (Int32.lt_iff_toInt_lt.mp q2)
    · obtain ⟨j, hj, e⟩ := nI_of2 (M := 10) (n := 10) (by decide) (fun r => q (Int32.lt_of_lt_of_le r (by decide))) (Int32.not_lt.mp q2)
      match j, hj with
      | 0, _ => exact absurd (by rw [e]; decide) q
      | 1, _ => exact absurd (by rw [e]; decide) q
      | 2, _ => exact absurd e h2
      | 3, _ => exact absurd e h3
      | 4, _ => exact absurd e h4
      | 5, _ => exact absurd e h5
      | 6, _ => exact absurd e h6
      | 7, _ => exact absurd e h7
      | 8, _ => exact absurd e h8
      | 9, _ => exact absurd e h9
      | 10, _ => exact absurd e h10
      | j + 11, h => exact absurd h (by omega)
theorem rest11 (κ : KS) {x : Int32} (h0 : ¬ x = 0) (h1 : ¬ x = 1) (h2 : ¬ x = 2) (h3 : ¬ x = 3) (h4 : ¬ x = 4) (h5 : ¬ x = 5) (h6 : ¬ x = 6) (h7 : ¬ x = 7) (h8 : ¬ x = 8) (h9 : ¬ x = 9) (h10 : ¬ x = 10) : stR κ x = -1 := by
  unfold stR
  rw [if_neg h0, if_neg h1, if_neg h2, if_neg h3, if_neg h4, if_neg h5, if_neg h6, if_neg h7, if_neg h8, if_neg h9, if_neg h10]
theorem look01 {x : Int32} (h0 : ¬ x = 0) (h1 : ¬ x = 1) : Op.lookupswitch.offset [(0, 27), (1, 35)] 43 x.toInt = 43 := by
  have e0 : ¬ x.toInt = 0 := fun q => h0 (Int32.toInt_inj.mp q)
  have e1 : ¬ x.toInt = 1 := fun q => h1 (Int32.toInt_inj.mp q)
  show (if (0 : Int) = x.toInt then (27 : Int) else (if (1 : Int) = x.toInt then 35 else 43)) = 43
  rw [if_neg (fun q => e0 q.symm), if_neg (fun q => e1 q.symm)]
set_option maxHeartbeats 4000000 in
set_option maxRecDepth 100000 in
theorem c_X4_report (l : Launch) {D : va_G} {q : Nat → ClassId} {ad : Nat → Nat} {κ : KS} {τ : TAU} (sz : Nat) (x0 : Int32) (h0 : ¬ x0 = 0) (h1 : ¬ x0 = 1) : Met l yX4_report wsX4_report (rmz 0 0) (va_Pc [.ref (ad 3), .int x0] (rPre D q (wX q ad κ τ) sz)) (va_Qi (fun (r : Int32) (u : Unit) => r = stR κ x0) (fun (u : Unit) tt => rPo D (rA (wX q ad κ τ) sz) (wX q ad κ τ) tt) (rA (wX q ad κ τ) sz)) 0 0 (rA (wX q ad κ τ) sz) := by
  refine r_start (cc := cX4_report) (maxL := 2) (ret := (some .int)) (by decide) rfl (Nat.le_of_ble_eq_true rfl) ?_
  intro p e s m below meth c ls hC hr hlk hnm hsz hw hl
  have hx := hC.1
  have hb := hC.2.1
  have hl : lv_has ls 2 [(0, .ref (ad 3)), (1, .int x0)] := hl
  refine lv_iload_n hx hb dX4_report_0 rfl (lv_at hl 1 rfl) ?_
  by_cases w_2 : x0 = 2
  · subst w_2
    refine lv_tableIn (tgt := 52) hx hb dX4_report_1 (by decide) (by decide) (by rfl) (by decide) ?_
    refine lv_aload_n hx hb dX4_report_52 rfl (lv_at hl 0 rfl) ?_
    refine r_get hC hw rk4 in_X4_report_4 3 (wXl 3 (by decide)) wXc3 7 (by decide) lk_X4_report_75 (v := .int (sI κ 4)) rfl dX4_report_53 ?_
    exact r_iret hC hr hlk hw () rfl rfl (Nat.le_of_ble_eq_true rfl) (Nat.le_of_ble_eq_true rfl) dX4_report_56
  · by_cases w_3 : x0 = 3
    · subst w_3
      refine lv_tableIn (tgt := 57) hx hb dX4_report_1 (by decide) (by decide) (by rfl) (by decide) ?_
      refine lv_aload_n hx hb dX4_report_57 rfl (lv_at hl 0 rfl) ?_
      refine r_get hC hw rk4 in_X4_report_4 3 (wXl 3 (by decide)) wXc3 9 (by decide) lk_X4_report_46 (v := .int (sI κ 5)) rfl dX4_report_58 ?_
      exact r_iret hC hr hlk hw () rfl rfl (Nat.le_of_ble_eq_true rfl) (Nat.le_of_ble_eq_true rfl) dX4_report_61
    · by_cases w_4 : x0 = 4
      · subst w_4
        refine lv_tableIn (tgt := 62) hx hb dX4_report_1 (by decide) (by decide) (by rfl) (by decide) ?_
        refine lv_aload_n hx hb dX4_report_62 rfl (lv_at hl 0 rfl) ?_
        refine r_get hC hw rk4 in_X4_report_4 3 (wXl 3 (by decide)) wXc3 10 (by decide) lk_X4_report_49 (v := .int (sI κ 6)) rfl dX4_report_63 ?_
        exact r_iret hC hr hlk hw () rfl rfl (Nat.le_of_ble_eq_true rfl) (Nat.le_of_ble_eq_true rfl) dX4_report_66
      · by_cases w_5 : x0 = 5
        · subst w_5
          refine lv_tableIn (tgt := 67) hx hb dX4_report_1 (by decide) (by decide) (by rfl) (by decide) ?_
          refine lv_aload_n hx hb dX4_report_67 rfl (lv_at hl 0 rfl) ?_
          refine r_get hC hw rk4 in_X4_report_4 3 (wXl 3 (by decide)) wXc3 3 (by decide) lk_X4_report_31 (v := .ref (ad 5)) rfl dX4_report_68 ?_
          refine r_get hC hw rk7 in_X4_report_7 5 (wXl 5 (by decide)) wXc5 1 (by decide) lk_X4_report_65 (v := .int (sI κ 2)) rfl dX4_report_71 ?_
          exact r_iret hC hr hlk hw () rfl rfl (Nat.le_of_ble_eq_true rfl) (Nat.le_of_ble_eq_true rfl) dX4_report_74
        · by_cases w_6 : x0 = 6
          · subst w_6
            refine lv_tableIn (tgt := 75) hx hb dX4_report_1 (by decide) (by decide) (by rfl) (by decide) ?_
            refine lv_aload_n hx hb dX4_report_75 rfl (lv_at hl 0 rfl) ?_
            refine r_get hC hw rk4 in_X4_report_4 3 (wXl 3 (by decide)) wXc3 11 (by decide) lk_X4_report_52 (v := .int (sI κ 7)) rfl dX4_report_76 ?_
            exact r_iret hC hr hlk hw () rfl rfl (Nat.le_of_ble_eq_true rfl) (Nat.le_of_ble_eq_true rfl) dX4_report_79
          · by_cases w_7 : x0 = 7
            · subst w_7
              refine lv_tableIn (tgt := 80) hx hb dX4_report_1 (by decide) (by decide) (by rfl) (by decide) ?_
              refine lv_aload_n hx hb dX4_report_80 rfl (lv_at hl 0 rfl) ?_
              refine r_get hC hw rk4 in_X4_report_4 3 (wXl 3 (by decide)) wXc3 12 (by decide) lk_X4_report_55 (v := .int (sI κ 8)) rfl dX4_report_81 ?_
              exact r_iret hC hr hlk hw () rfl rfl (Nat.le_of_ble_eq_true rfl) (Nat.le_of_ble_eq_true rfl) dX4_report_84
            · by_cases w_8 : x0 = 8
              · subst w_8
                refine lv_tableIn (tgt := 85) hx hb dX4_report_1 (by decide) (by decide) (by rfl) (by decide) ?_
                refine lv_aload_n hx hb dX4_report_85 rfl (lv_at hl 0 rfl) ?_
                refine r_get hC hw rk4 in_X4_report_4 3 (wXl 3 (by decide)) wXc3 13 (by decide) lk_X4_report_58 (v := .int (sI κ 9)) rfl dX4_report_86 ?_
                exact r_iret hC hr hlk hw () rfl rfl (Nat.le_of_ble_eq_true rfl) (Nat.le_of_ble_eq_true rfl) dX4_report_89
              · by_cases w_9 : x0 = 9
                · subst w_9
                  refine lv_tableIn (tgt := 90) hx hb dX4_report_1 (by decide) (by decide) (by rfl) (by decide) ?_
                  refine lv_aload_n hx hb dX4_report_90 rfl (lv_at hl 0 rfl) ?_
                  refine r_get hC hw rk4 in_X4_report_4 3 (wXl 3 (by decide)) wXc3 14 (by decide) lk_X4_report_42 (v := .int (sI κ 10)) rfl dX4_report_91 ?_
                  exact r_iret hC hr hlk hw () rfl rfl (Nat.le_of_ble_eq_true rfl) (Nat.le_of_ble_eq_true rfl) dX4_report_94
                · by_cases w_10 : x0 = 10
                  · subst w_10
                    refine lv_tableIn (tgt := 95) hx hb dX4_report_1 (by decide) (by decide) (by rfl) (by decide) ?_
                    refine lv_aload_n hx hb dX4_report_95 rfl (lv_at hl 0 rfl) ?_
                    refine r_get hC hw rk4 in_X4_report_4 3 (wXl 3 (by decide)) wXc3 6 (by decide) lk_X4_report_68 (v := .int (sI κ 3)) rfl dX4_report_96 ?_
                    exact r_iret hC hr hlk hw () rfl rfl (Nat.le_of_ble_eq_true rfl) (Nat.le_of_ble_eq_true rfl) dX4_report_99
                  · refine lv_tableOut (tgt := 100) hx hb dX4_report_1 (out10 w_2 w_3 w_4 w_5 w_6 w_7 w_8 w_9 w_10) (by decide) ?_
                    refine lv_iconst (v := (-1)) hx hb dX4_report_100 (by decide) ?_
                    exact r_iret hC hr hlk hw () rfl (rest11 κ h0 h1 w_2 w_3 w_4 w_5 w_6 w_7 w_8 w_9 w_10).symm (Nat.le_of_ble_eq_true rfl) (Nat.le_of_ble_eq_true rfl) dX4_report_101

set_option maxHeartbeats 4000000 in
set_option maxRecDepth 100000 in
theorem c_X8_state (l : Launch) {D : va_G} {q : Nat → ClassId} {ad : Nat → Nat} {κ : KS} {τ : TAU} (sz : Nat) (x0 : Int32) : Met l yX8_state wsX8_state (rmz 1 21) (va_Pc [.ref (ad 0), .int x0] (rPre D q (wX q ad κ τ) sz)) (va_Qi (fun (r : Int32) (u : Unit) => r = stR κ x0) (fun (u : Unit) tt => rPo D (rA (wX q ad κ τ) sz) (wX q ad κ τ) tt) (rA (wX q ad κ τ) sz)) 0 0 (rA (wX q ad κ τ) sz) := by
  refine r_start (cc := cX8_state) (maxL := 2) (ret := (some .int)) (by decide) rfl (Nat.le_of_ble_eq_true rfl) ?_
  intro p e s m below meth c ls hC hr hlk hnm hsz hw hl
  have hx := hC.1
  have hb := hC.2.1
  have hl : lv_has ls 2 [(0, .ref (ad 0)), (1, .int x0)] := hl
  refine lv_iload_n hx hb dX8_state_0 rfl (lv_at hl 1 rfl) ?_
  by_cases w_0 : x0 = 0
  · subst w_0
    refine lv_lookup (off := 27) (tgt := 28) hx hb dX8_state_1 (by decide) (by decide) (by decide) ?_
    refine lv_aload_n hx hb dX8_state_28 rfl (lv_at hl 0 rfl) ?_
    refine r_get hC hw rk8 in_X8_state_8 0 (wXl 0 (by decide)) wXc0 0 (by decide) lk_X8_state_10 (v := .ref (ad 1)) rfl dX8_state_29 ?_
    refine r_get hC hw rk1 in_X8_state_1 1 (wXl 1 (by decide)) wXc1 2 (by decide) lk_X8_state_36 (v := .int (sI κ 0)) rfl dX8_state_32 ?_
    exact r_iret hC hr hlk hw () rfl rfl (Nat.le_of_ble_eq_true rfl) (Nat.le_of_ble_eq_true rfl) dX8_state_35
  · by_cases w_1 : x0 = 1
    · subst w_1
      refine lv_lookup (off := 35) (tgt := 36) hx hb dX8_state_1 (by decide) (by decide) (by decide) ?_
      refine lv_aload_n hx hb dX8_state_36 rfl (lv_at hl 0 rfl) ?_
      refine r_get hC hw rk8 in_X8_state_8 0 (wXl 0 (by decide)) wXc0 0 (by decide) lk_X8_state_10 (v := .ref (ad 1)) rfl dX8_state_37 ?_
      refine r_get hC hw rk1 in_X8_state_1 1 (wXl 1 (by decide)) wXc1 3 (by decide) lk_X8_state_56 (v := .int (sI κ 1)) rfl dX8_state_40 ?_
      exact r_iret hC hr hlk hw () rfl rfl (Nat.le_of_ble_eq_true rfl) (Nat.le_of_ble_eq_true rfl) dX8_state_43
    · refine lv_lookup (off := 43) (tgt := 44) hx hb dX8_state_1 (by decide) (look01 w_0 w_1) (by decide) ?_
      refine lv_aload_n hx hb dX8_state_44 rfl (lv_at hl 0 rfl) ?_
      refine r_get hC hw rk8 in_X8_state_8 0 (wXl 0 (by decide)) wXc0 2 (by decide) lk_X8_state_28 (v := .ref (ad 3)) rfl dX8_state_45 ?_
      refine lv_iload_n hx hb dX8_state_48 rfl (lv_at hl 1 rfl) ?_
      refine r_ki hw (r_runV (rest := []) hC hw 3 (c_X4_report (ad := ad) l _ x0 w_0 w_1) rk4 (wXl 3 (by decide)) wXc3 1 gX8_state_X4_report rfl rfl rfl (by decide +kernel) ⟨Nat.le_of_ble_eq_true rfl, Nat.le_of_ble_eq_true rfl⟩ rfl hl.1 rfl (Nat.le_of_ble_eq_true rfl) dX8_state_49 ⟨Nat.le_of_ble_eq_true rfl, Nat.le_of_ble_eq_true rfl⟩) (fun r_2 u_3 H locs h_1 hw => ?_)
      subst h_1
      exact r_iret hC hr hlk hw () rfl rfl (Nat.le_of_ble_eq_true rfl) (Nat.le_of_ble_eq_true rfl) dX8_state_52

