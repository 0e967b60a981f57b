set_option maxHeartbeats 4000000 in
set_option maxRecDepth 100000 in
theorem c_X7_weave_31 (l : Launch) {D : va_G} {q : Nat → ClassId} {ad : Nat → Nat} {κ : KS} {τ : TAU} (sz : Nat) (ρ : Nat) (xa xb xc hd th : Int32) (hst : stepAt q ad κ τ ρ 31 xa xb xc) (hs : okStep 31 xa xb xc)(hX : WFx κ) (hm : vp_in (sI κ 2) 61) (hF : WFa κ τ (aN (sI κ 2))) (hρ : 400 ≤ ρ) (g : Nat) (hg : why κ 31 xa xb xc = 0 → 1 ≤ g) : Met l yX7_weave wsX7_weave (rmc 3 67 (4 * g) (44 * g)) (va_Pc [.ref (ad 5), .ref (ad ρ)] (rPre D q (wX q ad κ τ) sz)) (va_Qi (fun (r : Int32) (u : KS × (Nat → Nat)) => (r, u.1) = doR κ hd th 31 xa xb xc ∧ ∀ i, lvX κ i → u.2 i = ad i) (fun (u : KS × (Nat → Nat)) tt => rPo D (rA (wX q ad κ τ) sz) (wX q u.2 u.1 τ) tt) (rA (wX q ad κ τ) sz)) (4 * g) (44 * g) (rA (wX q ad κ τ) sz) := by
  have hi0 : vp_in xa 8 := hs.1
  have hi1 : vp_in xb 10 := hs.2.1
  have hi2 : vp_in xc 8 := hs.2.2
  refine r_start (cc := cX7_weave) (maxL := 2) (ret := (some .int)) (by decide) rfl (Nat.le_of_ble_eq_true rfl) ?_
  intro p e s m below meth c ls hC hr hlk hnm hsz hw hl
  have hx := hC.1
  have hb := hC.2.1
  have hl : lv_has ls 2 [(0, .ref (ad 5)), (1, .ref (ad ρ))] := hl
  refine lv_aload_n hx hb dX7_weave_0 rfl (lv_at hl 1 rfl) ?_
  refine r_get hC hw rk5 in_X7_weave_5 ρ hst.1 hst.2 0 (by decide) lk_X7_weave_15 (v := .int 31) rfl dX7_weave_1 ?_
  refine lv_bipush (v := 39) hx hb dX7_weave_4 (by decide) ?_
  refine lv_icmp_lt (tgt := 34) hx hb dX7_weave_6 (by decide) (fun _ => ?_) (fun c_ => absurd (by decide) c_)
  refine lv_aload_n hx hb dX7_weave_34 rfl (lv_at hl 1 rfl) ?_
  refine r_get hC hw rk5 in_X7_weave_5 ρ hst.1 hst.2 0 (by decide) lk_X7_weave_15 (v := .int 31) rfl dX7_weave_35 ?_
  refine lv_bipush (v := 49) hx hb dX7_weave_38 (by decide) ?_
  refine lv_icmp_lt (tgt := 68) hx hb dX7_weave_40 (by decide) (fun _ => ?_) (fun c_ => absurd (by decide) c_)
  refine lv_aload_n hx hb dX7_weave_68 rfl (lv_at hl 1 rfl) ?_
  refine r_get hC hw rk5 in_X7_weave_5 ρ hst.1 hst.2 0 (by decide) lk_X7_weave_15 (v := .int 31) rfl dX7_weave_69 ?_
  refine lv_bipush (v := 59) hx hb dX7_weave_72 (by decide) ?_
  refine lv_icmp_lt (tgt := 92) hx hb dX7_weave_74 (by decide) (fun _ => ?_) (fun c_ => absurd (by decide) c_)
  refine lv_aload_n hx hb dX7_weave_92 rfl (lv_at hl 1 rfl) ?_
  refine r_get hC hw rk5 in_X7_weave_5 ρ hst.1 hst.2 0 (by decide) lk_X7_weave_15 (v := .int 31) rfl dX7_weave_93 ?_
  refine lv_lookup (off := 60) (tgt := 156) hx hb dX7_weave_96 (by decide) (by decide) (by decide) ?_
  refine lv_aload_n hx hb dX7_weave_156 rfl (lv_at hl 0 rfl) ?_
  refine lv_aload_n hx hb dX7_weave_157 rfl (lv_at hl 1 rfl) ?_
  refine r_ki hw (r_runV (rest := []) hC hw 5 (c_X7_makeRow l _ ρ xa xb xc hd th hst hs hX hm hF hρ g hg) rk7 (wXl 5 (by decide)) wXc5 1 gX7_weave_X7_makeRow rfl rfl rfl (by decide +kernel) ⟨Nat.le_of_ble_eq_true rfl, Nat.le_of_ble_eq_true rfl⟩ rfl hl.1 rfl (Nat.le_of_ble_eq_true rfl) dX7_weave_158 ⟨show 0 + (4 * g) ≤ 4 * g by omega, show 0 + (44 * g) ≤ 44 * g by omega⟩) (fun r_2 u_3 H locs h_1 hw => ?_)
  exact r_iret hC hr hlk hw u_3 rfl h_1 (show _ ≤ 4 * g by omega) (show _ ≤ 44 * g by omega) dX7_weave_161

set_option maxHeartbeats 4000000 in
set_option maxRecDepth 100000 in
theorem c_X7_weave_32 (l : Launch) {D : va_G} {q : Nat → ClassId} {ad : Nat → Nat} {κ : KS} {τ : TAU} (sz : Nat) (ρ : Nat) (xa xb xc hd th : Int32) (hst : stepAt q ad κ τ ρ 32 xa xb xc) (hs : okStep 32 xa xb xc)(hX : WFx κ) (hm : vp_in (sI κ 2) 61) (hF : WFa κ τ (aN (sI κ 2))) (hρ : 400 ≤ ρ) (g : Nat) (hg : why κ 32 xa xb xc = 0 → 1 + aN (sA κ 2 (aN xb)) ≤ g) : Met l yX7_weave wsX7_weave (rmc 3 67 (4 * g) (44 * g)) (va_Pc [.ref (ad 5), .ref (ad ρ)] (rPre D q (wX q ad κ τ) sz)) (va_Qi (fun (r : Int32) (u : KS × (Nat → Nat)) => (r, u.1) = doR κ hd th 32 xa xb xc ∧ ∀ i, lvX κ i → u.2 i = ad i) (fun (u : KS × (Nat → Nat)) tt => rPo D (rA (wX q ad κ τ) sz) (wX q u.2 u.1 τ) tt) (rA (wX q ad κ τ) sz)) (4 * g) (44 * g) (rA (wX q ad κ τ) sz) := by
  have hi0 : vp_in xa 8 := hs.1
  have hi1 : vp_in xb 8 := hs.2.1
  have hi2 : vp_in xc 8 := hs.2.2
  refine r_start (cc := cX7_weave) (maxL := 2) (ret := (some .int)) (by decide) rfl (Nat.le_of_ble_eq_true rfl) ?_
  intro p e s m below meth c ls hC hr hlk hnm hsz hw hl
  have hx := hC.1
  have hb := hC.2.1
  have hl : lv_has ls 2 [(0, .ref (ad 5)), (1, .ref (ad ρ))] := hl
  refine lv_aload_n hx hb dX7_weave_0 rfl (lv_at hl 1 rfl) ?_
  refine r_get hC hw rk5 in_X7_weave_5 ρ hst.1 hst.2 0 (by decide) lk_X7_weave_15 (v := .int 32) rfl dX7_weave_1 ?_
  refine lv_bipush (v := 39) hx hb dX7_weave_4 (by decide) ?_
  refine lv_icmp_lt (tgt := 34) hx hb dX7_weave_6 (by decide) (fun _ => ?_) (fun c_ => absurd (by decide) c_)
  refine lv_aload_n hx hb dX7_weave_34 rfl (lv_at hl 1 rfl) ?_
  refine r_get hC hw rk5 in_X7_weave_5 ρ hst.1 hst.2 0 (by decide) lk_X7_weave_15 (v := .int 32) rfl dX7_weave_35 ?_
  refine lv_bipush (v := 49) hx hb dX7_weave_38 (by decide) ?_
  refine lv_icmp_lt (tgt := 68) hx hb dX7_weave_40 (by decide) (fun _ => ?_) (fun c_ => absurd (by decide) c_)
  refine lv_aload_n hx hb dX7_weave_68 rfl (lv_at hl 1 rfl) ?_
  refine r_get hC hw rk5 in_X7_weave_5 ρ hst.1 hst.2 0 (by decide) lk_X7_weave_15 (v := .int 32) rfl dX7_weave_69 ?_
  refine lv_bipush (v := 59) hx hb dX7_weave_72 (by decide) ?_
  refine lv_icmp_lt (tgt := 92) hx hb dX7_weave_74 (by decide) (fun _ => ?_) (fun c_ => absurd (by decide) c_)
  refine lv_aload_n hx hb dX7_weave_92 rfl (lv_at hl 1 rfl) ?_
  refine r_get hC hw rk5 in_X7_weave_5 ρ hst.1 hst.2 0 (by decide) lk_X7_weave_15 (v := .int 32) rfl dX7_weave_93 ?_
  refine lv_lookup (off := 66) (tgt := 162) hx hb dX7_weave_96 (by decide) (by decide) (by decide) ?_
  refine lv_aload_n hx hb dX7_weave_162 rfl (lv_at hl 0 rfl) ?_
  refine lv_aload_n hx hb dX7_weave_163 rfl (lv_at hl 1 rfl) ?_
  refine r_ki hw (r_runV (rest := []) hC hw 5 (c_X7_makeGrid l _ ρ xa xb xc hd th hst hs hX hm hF hρ g hg) rk7 (wXl 5 (by decide)) wXc5 1 gX7_weave_X7_makeGrid rfl rfl rfl (by decide +kernel) ⟨Nat.le_of_ble_eq_true rfl, Nat.le_of_ble_eq_true rfl⟩ rfl hl.1 rfl (Nat.le_of_ble_eq_true rfl) dX7_weave_164 ⟨show 0 + (4 * g) ≤ 4 * g by omega, show 0 + (44 * g) ≤ 44 * g by omega⟩) (fun r_2 u_3 H locs h_1 hw => ?_)
  exact r_iret hC hr hlk hw u_3 rfl h_1 (show _ ≤ 4 * g by omega) (show _ ≤ 44 * g by omega) dX7_weave_167

set_option maxHeartbeats 4000000 in
set_option maxRecDepth 100000 in
theorem c_X7_weave_33 (l : Launch) {D : va_G} {q : Nat → ClassId} {ad : Nat → Nat} {κ : KS} {τ : TAU} (sz : Nat) (ρ : Nat) (xa xb xc hd th : Int32) (hst : stepAt q ad κ τ ρ 33 xa xb xc) (hs : okStep 33 xa xb xc)(hX : WFx κ) (hm : vp_in (sI κ 2) 61) (hF : WFa κ τ (aN (sI κ 2))) (hρ : 400 ≤ ρ) (g : Nat) (hg : why κ 33 xa xb xc = 0 → 1 ≤ g) : Met l yX7_weave wsX7_weave (rmc 3 67 (4 * g) (44 * g)) (va_Pc [.ref (ad 5), .ref (ad ρ)] (rPre D q (wX q ad κ τ) sz)) (va_Qi (fun (r : Int32) (u : KS × (Nat → Nat)) => (r, u.1) = doR κ hd th 33 xa xb xc ∧ ∀ i, lvX κ i → u.2 i = ad i) (fun (u : KS × (Nat → Nat)) tt => rPo D (rA (wX q ad κ τ) sz) (wX q u.2 u.1 τ) tt) (rA (wX q ad κ τ) sz)) (4 * g) (44 * g) (rA (wX q ad κ τ) sz) := by
  have hi0 : vp_in xa 8 := hs.1
  have hi1 : vp_in (xb - 11) 4 := hs.2.1
  have hi2 : vp_in xc 8 := hs.2.2
  refine r_start (cc := cX7_weave) (maxL := 2) (ret := (some .int)) (by decide) rfl (Nat.le_of_ble_eq_true rfl) ?_
  intro p e s m below meth c ls hC hr hlk hnm hsz hw hl
  have hx := hC.1
  have hb := hC.2.1
  have hl : lv_has ls 2 [(0, .ref (ad 5)), (1, .ref (ad ρ))] := hl
  refine lv_aload_n hx hb dX7_weave_0 rfl (lv_at hl 1 rfl) ?_
  refine r_get hC hw rk5 in_X7_weave_5 ρ hst.1 hst.2 0 (by decide) lk_X7_weave_15 (v := .int 33) rfl dX7_weave_1 ?_
  refine lv_bipush (v := 39) hx hb dX7_weave_4 (by decide) ?_
  refine lv_icmp_lt (tgt := 34) hx hb dX7_weave_6 (by decide) (fun _ => ?_) (fun c_ => absurd (by decide) c_)
  refine lv_aload_n hx hb dX7_weave_34 rfl (lv_at hl 1 rfl) ?_
  refine r_get hC hw rk5 in_X7_weave_5 ρ hst.1 hst.2 0 (by decide) lk_X7_weave_15 (v := .int 33) rfl dX7_weave_35 ?_
  refine lv_bipush (v := 49) hx hb dX7_weave_38 (by decide) ?_
  refine lv_icmp_lt (tgt := 68) hx hb dX7_weave_40 (by decide) (fun _ => ?_) (fun c_ => absurd (by decide) c_)
  refine lv_aload_n hx hb dX7_weave_68 rfl (lv_at hl 1 rfl) ?_
  refine r_get hC hw rk5 in_X7_weave_5 ρ hst.1 hst.2 0 (by decide) lk_X7_weave_15 (v := .int 33) rfl dX7_weave_69 ?_
  refine lv_bipush (v := 59) hx hb dX7_weave_72 (by decide) ?_
  refine lv_icmp_lt (tgt := 92) hx hb dX7_weave_74 (by decide) (fun _ => ?_) (fun c_ => absurd (by decide) c_)
  refine lv_aload_n hx hb dX7_weave_92 rfl (lv_at hl 1 rfl) ?_
  refine r_get hC hw rk5 in_X7_weave_5 ρ hst.1 hst.2 0 (by decide) lk_X7_weave_15 (v := .int 33) rfl dX7_weave_93 ?_
  refine lv_lookup (off := 72) (tgt := 168) hx hb dX7_weave_96 (by decide) (by decide) (by decide) ?_
  refine lv_aload_n hx hb dX7_weave_168 rfl (lv_at hl 0 rfl) ?_
  refine lv_aload_n hx hb dX7_weave_169 rfl (lv_at hl 1 rfl) ?_
  refine r_ki hw (r_runV (rest := []) hC hw 5 (c_X7_makeKnot l _ ρ xa xb xc hd th hst hs hX hm hF hρ g hg) rk7 (wXl 5 (by decide)) wXc5 1 gX7_weave_X7_makeKnot rfl rfl rfl (by decide +kernel) ⟨Nat.le_of_ble_eq_true rfl, Nat.le_of_ble_eq_true rfl⟩ rfl hl.1 rfl (Nat.le_of_ble_eq_true rfl) dX7_weave_170 ⟨show 0 + (4 * g) ≤ 4 * g by omega, show 0 + (44 * g) ≤ 44 * g by omega⟩) (fun r_2 u_3 H locs h_1 hw => ?_)
  exact r_iret hC hr hlk hw u_3 rfl h_1 (show _ ≤ 4 * g by omega) (show _ ≤ 44 * g by omega) dX7_weave_173

set_option maxHeartbeats 4000000 in
set_option maxRecDepth 100000 in
theorem c_X7_weave_67 (l : Launch) {D : va_G} {q : Nat → ClassId} {ad : Nat → Nat} {κ : KS} {τ : TAU} (sz : Nat) (ρ : Nat) (xa xb xc hd th : Int32) (hst : stepAt q ad κ τ ρ 67 xa xb xc) (hs : okStep 67 xa xb xc)(hX : WFx κ) (hm : vp_in (sI κ 2) 61) (hF : WFa κ τ (aN (sI κ 2))) (hρ : 400 ≤ ρ) (g : Nat) (hg : why κ 67 xa xb xc = 0 → 1 ≤ g) : Met l yX7_weave wsX7_weave (rmc 3 67 (4 * g) (44 * g)) (va_Pc [.ref (ad 5), .ref (ad ρ)] (rPre D q (wX q ad κ τ) sz)) (va_Qi (fun (r : Int32) (u : KS × (Nat → Nat)) => (r, u.1) = doR κ hd th 67 xa xb xc ∧ ∀ i, lvX κ i → u.2 i = ad i) (fun (u : KS × (Nat → Nat)) tt => rPo D (rA (wX q ad κ τ) sz) (wX q u.2 u.1 τ) tt) (rA (wX q ad κ τ) sz)) (4 * g) (44 * g) (rA (wX q ad κ τ) sz) := by
  have hi0 : vp_in xa 8 := hs.1
  have hi1 : vp_in xb 8 := hs.2.1
  have hi2 : vp_in xc 8 := hs.2.2
  refine r_start (cc := cX7_weave) (maxL := 2) (ret := (some .int)) (by decide) rfl (Nat.le_of_ble_eq_true rfl) ?_
  intro p e s m below meth c ls hC hr hlk hnm hsz hw hl
  have hx := hC.1
  have hb := hC.2.1
  have hl : lv_has ls 2 [(0, .ref (ad 5)), (1, .ref (ad ρ))] := hl
  refine lv_aload_n hx hb dX7_weave_0 rfl (lv_at hl 1 rfl) ?_
  refine r_get hC hw rk5 in_X7_weave_5 ρ hst.1 hst.2 0 (by decide) lk_X7_weave_15 (v := .int 67) rfl dX7_weave_1 ?_
  refine lv_bipush (v := 39) hx hb dX7_weave_4 (by decide) ?_
  refine lv_icmp_lt (tgt := 34) hx hb dX7_weave_6 (by decide) (fun c_ => absurd c_ (by decide)) (fun _ => ?_)
  refine lv_aload_n hx hb dX7_weave_9 rfl (lv_at hl 1 rfl) ?_
  refine r_get hC hw rk5 in_X7_weave_5 ρ hst.1 hst.2 0 (by decide) lk_X7_weave_15 (v := .int 67) rfl dX7_weave_10 ?_
  refine lv_bipush (v := 48) hx hb dX7_weave_13 (by decide) ?_
  refine lv_icmp_gt (tgt := 34) hx hb dX7_weave_15 (by decide) (fun _ => ?_) (fun c_ => absurd (by decide) c_)
  refine lv_aload_n hx hb dX7_weave_34 rfl (lv_at hl 1 rfl) ?_
  refine r_get hC hw rk5 in_X7_weave_5 ρ hst.1 hst.2 0 (by decide) lk_X7_weave_15 (v := .int 67) rfl dX7_weave_35 ?_
  refine lv_bipush (v := 49) hx hb dX7_weave_38 (by decide) ?_
  refine lv_icmp_lt (tgt := 68) hx hb dX7_weave_40 (by decide) (fun c_ => absurd c_ (by decide)) (fun _ => ?_)
  refine lv_aload_n hx hb dX7_weave_43 rfl (lv_at hl 1 rfl) ?_
  refine r_get hC hw rk5 in_X7_weave_5 ρ hst.1 hst.2 0 (by decide) lk_X7_weave_15 (v := .int 67) rfl dX7_weave_44 ?_
  refine lv_bipush (v := 58) hx hb dX7_weave_47 (by decide) ?_
  refine lv_icmp_gt (tgt := 68) hx hb dX7_weave_49 (by decide) (fun _ => ?_) (fun c_ => absurd (by decide) c_)
  refine lv_aload_n hx hb dX7_weave_68 rfl (lv_at hl 1 rfl) ?_
  refine r_get hC hw rk5 in_X7_weave_5 ρ hst.1 hst.2 0 (by decide) lk_X7_weave_15 (v := .int 67) rfl dX7_weave_69 ?_
  refine lv_bipush (v := 59) hx hb dX7_weave_72 (by decide) ?_
  refine lv_icmp_lt (tgt := 92) hx hb dX7_weave_74 (by decide) (fun c_ => absurd c_ (by decide)) (fun _ => ?_)
  refine lv_aload_n hx hb dX7_weave_77 rfl (lv_at hl 1 rfl) ?_
  refine r_get hC hw rk5 in_X7_weave_5 ρ hst.1 hst.2 0 (by decide) lk_X7_weave_15 (v := .int 67) rfl dX7_weave_78 ?_
  refine lv_bipush (v := 66) hx hb dX7_weave_81 (by decide) ?_
  refine lv_icmp_gt (tgt := 92) hx hb dX7_weave_83 (by decide) (fun _ => ?_) (fun c_ => absurd (by decide) c_)
  refine lv_aload_n hx hb dX7_weave_92 rfl (lv_at hl 1 rfl) ?_
  refine r_get hC hw rk5 in_X7_weave_5 ρ hst.1 hst.2 0 (by decide) lk_X7_weave_15 (v := .int 67) rfl dX7_weave_93 ?_
  refine lv_lookup (off := 78) (tgt := 174) hx hb dX7_weave_96 (by decide) (by decide) (by decide) ?_
  refine lv_aload_n hx hb dX7_weave_174 rfl (lv_at hl 0 rfl) ?_
  refine lv_aload_n hx hb dX7_weave_175 rfl (lv_at hl 1 rfl) ?_
  refine r_ki hw (r_runV (rest := []) hC hw 5 (c_X7_makeFault l _ ρ xa xb xc hd th hst hs hX hm hF hρ g hg) rk7 (wXl 5 (by decide)) wXc5 1 gX7_weave_X7_makeFault rfl rfl rfl (by decide +kernel) ⟨Nat.le_of_ble_eq_true rfl, Nat.le_of_ble_eq_true rfl⟩ rfl hl.1 rfl (Nat.le_of_ble_eq_true rfl) dX7_weave_176 ⟨show 0 + (4 * g) ≤ 4 * g by omega, show 0 + (44 * g) ≤ 44 * g by omega⟩) (fun r_2 u_3 H locs h_1 hw => ?_)
  exact r_iret hC hr hlk hw u_3 rfl h_1 (show _ ≤ 4 * g by omega) (show _ ≤ 44 * g by omega) dX7_weave_179

set_option maxHeartbeats 4000000 in
set_option maxRecDepth 100000 in
theorem c_X2_reckon_1 (l : Launch) {D : va_G} {q : Nat → ClassId} {ad : Nat → Nat} {κ : KS} {τ : TAU} (sz : Nat) (ρ : Nat) (xa xb xc hd th : Int32) (hst : stepAt q ad κ τ ρ 1 xa xb xc) (hs : okStep 1 xa xb xc)(hN : nnOp κ 1 xa xb xc) : Met l yX2_reckon wsX2_reckon (rmz 3 78) (va_Pc [.ref (ad 4), .ref (ad ρ)] (rPre D q (wX q ad κ τ) sz)) (va_Qi (fun (r : Int32) (u : KS) => (r, u) = doR κ hd th 1 xa xb xc) (fun (u : KS) tt => rPo D (rA (wX q ad κ τ) sz) (wX q ad u τ) tt) (rA (wX q ad κ τ) sz)) 0 0 (rA (wX q ad κ τ) sz) := by
  have hi0 : vp_in xa 8 := hs.1
  refine r_start (cc := cX2_reckon) (maxL := 2) (ret := (some .int)) (by decide) rfl (Nat.le_of_ble_eq_true rfl) ?_
  intro p e s m below meth c ls hC hr hlk hnm hsz hw hl
  have hx := hC.1
  have hb := hC.2.1
  have hl : lv_has ls 2 [(0, .ref (ad 4)), (1, .ref (ad ρ))] := hl
  refine lv_aload_n hx hb dX2_reckon_0 rfl (lv_at hl 1 rfl) ?_
  refine r_get hC hw rk5 in_X2_reckon_5 ρ hst.1 hst.2 0 (by decide) lk_X2_reckon_15 (v := .int 1) rfl dX2_reckon_1 ?_
  refine lv_bipush (v := 14) hx hb dX2_reckon_4 (by decide) ?_
  refine lv_icmp_gt (tgt := 17) hx hb dX2_reckon_6 (by decide) (fun c_ => absurd c_ (by decide)) (fun _ => ?_)
  refine lv_aload_n hx hb dX2_reckon_9 rfl (lv_at hl 0 rfl) ?_
  refine lv_aload_n hx hb dX2_reckon_10 rfl (lv_at hl 1 rfl) ?_
  refine r_ki hw (r_runV (rest := []) hC hw 4 (c_X2_reckonWhole_1 l _ ρ xa xb xc hd th hst hs) rk2 (wXl 4 (by decide)) wXc4 1 gX2_reckon_X2_reckonWhole rfl rfl rfl (by decide +kernel) ⟨Nat.le_of_ble_eq_true rfl, Nat.le_of_ble_eq_true rfl⟩ rfl hl.1 rfl (Nat.le_of_ble_eq_true rfl) dX2_reckon_11 ⟨Nat.le_of_ble_eq_true rfl, Nat.le_of_ble_eq_true rfl⟩) (fun r_2 u_3 H locs h_1 hw => ?_)
  refine lv_goto (tgt := 22) hx hb dX2_reckon_14 (by decide) ?_
  exact r_iret hC hr hlk hw u_3 rfl h_1 (Nat.le_of_ble_eq_true rfl) (Nat.le_of_ble_eq_true rfl) dX2_reckon_22

set_option maxHeartbeats 4000000 in
set_option maxRecDepth 100000 in
theorem c_X2_reckon_2 (l : Launch) {D : va_G} {q : Nat → ClassId} {ad : Nat → Nat} {κ : KS} {τ : TAU} (sz : Nat) (ρ : Nat) (xa xb xc hd th : Int32) (hst : stepAt q ad κ τ ρ 2 xa xb xc) (hs : okStep 2 xa xb xc)(hN : nnOp κ 2 xa xb xc) : Met l yX2_reckon wsX2_reckon (rmz 3 78) (va_Pc [.ref (ad 4), .ref (ad ρ)] (rPre D q (wX q ad κ τ) sz)) (va_Qi (fun (r : Int32) (u : KS) => (r, u) = doR κ hd th 2 xa xb xc) (fun (u : KS) tt => rPo D (rA (wX q ad κ τ) sz) (wX q ad u τ) tt) (rA (wX q ad κ τ) sz)) 0 0 (rA (wX q ad κ τ) sz) := by
  have hi0 : vp_in xa 4 := hs.1
  refine r_start (cc := cX2_reckon) (maxL := 2) (ret := (some .int)) (by decide) rfl (Nat.le_of_ble_eq_true rfl) ?_
  intro p e s m below meth c ls hC hr hlk hnm hsz hw hl
  have hx := hC.1
  have hb := hC.2.1
  have hl : lv_has ls 2 [(0, .ref (ad 4)), (1, .ref (ad ρ))] := hl
  refine lv_aload_n hx hb dX2_reckon_0 rfl (lv_at hl 1 rfl) ?_
  refine r_get hC hw rk5 in_X2_reckon_5 ρ hst.1 hst.2 0 (by decide) lk_X2_reckon_15 (v := .int 2) rfl dX2_reckon_1 ?_
  refine lv_bipush (v := 14) hx hb dX2_reckon_4 (by decide) ?_
  refine lv_icmp_gt (tgt := 17) hx hb dX2_reckon_6 (by decide) (fun c_ => absurd c_ (by decide)) (fun _ => ?_)
  refine lv_aload_n hx hb dX2_reckon_9 rfl (lv_at hl 0 rfl) ?_
  refine lv_aload_n hx hb dX2_reckon_10 rfl (lv_at hl 1 rfl) ?_
  refine r_ki hw (r_runV (rest := []) hC hw 4 (c_X2_reckonWhole_2 l _ ρ xa xb xc hd th hst hs) rk2 (wXl 4 (by decide)) wXc4 1 gX2_reckon_X2_reckonWhole rfl rfl rfl (by decide +kernel) ⟨Nat.le_of_ble_eq_true rfl, Nat.le_of_ble_eq_true rfl⟩ rfl hl.1 rfl (Nat.le_of_ble_eq_true rfl) dX2_reckon_11 ⟨Nat.le_of_ble_eq_true rfl, Nat.le_of_ble_eq_true rfl⟩) (fun r_2 u_3 H locs h_1 hw => ?_)
  refine lv_goto (tgt := 22) hx hb dX2_reckon_14 (by decide) ?_
  exact r_iret hC hr hlk hw u_3 rfl h_1 (Nat.le_of_ble_eq_true rfl) (Nat.le_of_ble_eq_true rfl) dX2_reckon_22

set_option maxHeartbeats 4000000 in
set_option maxRecDepth 100000 in
theorem c_X2_reckon_3 (l : Launch) {D : va_G} {q : Nat → ClassId} {ad : Nat → Nat} {κ : KS} {τ : TAU} (sz : Nat) (ρ : Nat) (xa xb xc hd th : Int32) (hst : stepAt q ad κ τ ρ 3 xa xb xc) (hs : okStep 3 xa xb xc)(hN : nnOp κ 3 xa xb xc) : Met l yX2_reckon wsX2_reckon (rmz 3 78) (va_Pc [.ref (ad 4), .ref (ad ρ)] (rPre D q (wX q ad κ τ) sz)) (va_Qi (fun (r : Int32) (u : KS) => (r, u) = doR κ hd th 3 xa xb xc) (fun (u : KS) tt => rPo D (rA (wX q ad κ τ) sz) (wX q ad u τ) tt) (rA (wX q ad κ τ) sz)) 0 0 (rA (wX q ad κ τ) sz) := by
  have hi0 : vp_in xa 8 := hs.1
  have hi1 : vp_in xb 8 := hs.2.1
  refine r_start (cc := cX2_reckon) (maxL := 2) (ret := (some .int)) (by decide) rfl (Nat.le_of_ble_eq_true rfl) ?_
  intro p e s m below meth c ls hC hr hlk hnm hsz hw hl
  have hx := hC.1
  have hb := hC.2.1
  have hl : lv_has ls 2 [(0, .ref (ad 4)), (1, .ref (ad ρ))] := hl
  refine lv_aload_n hx hb dX2_reckon_0 rfl (lv_at hl 1 rfl) ?_
  refine r_get hC hw rk5 in_X2_reckon_5 ρ hst.1 hst.2 0 (by decide) lk_X2_reckon_15 (v := .int 3) rfl dX2_reckon_1 ?_
  refine lv_bipush (v := 14) hx hb dX2_reckon_4 (by decide) ?_
  refine lv_icmp_gt (tgt := 17) hx hb dX2_reckon_6 (by decide) (fun c_ => absurd c_ (by decide)) (fun _ => ?_)
  refine lv_aload_n hx hb dX2_reckon_9 rfl (lv_at hl 0 rfl) ?_
  refine lv_aload_n hx hb dX2_reckon_10 rfl (lv_at hl 1 rfl) ?_
  refine r_ki hw (r_runV (rest := []) hC hw 4 (c_X2_reckonWhole_3 l _ ρ xa xb xc hd th hst hs) rk2 (wXl 4 (by decide)) wXc4 1 gX2_reckon_X2_reckonWhole rfl rfl rfl (by decide +kernel) ⟨Nat.le_of_ble_eq_true rfl, Nat.le_of_ble_eq_true rfl⟩ rfl hl.1 rfl (Nat.le_of_ble_eq_true rfl) dX2_reckon_11 ⟨Nat.le_of_ble_eq_true rfl, Nat.le_of_ble_eq_true rfl⟩) (fun r_2 u_3 H locs h_1 hw => ?_)
  refine lv_goto (tgt := 22) hx hb dX2_reckon_14 (by decide) ?_
  exact r_iret hC hr hlk hw u_3 rfl h_1 (Nat.le_of_ble_eq_true rfl) (Nat.le_of_ble_eq_true rfl) dX2_reckon_22

set_option maxHeartbeats 4000000 in
set_option maxRecDepth 100000 in
theorem c_X2_reckon_4 (l : Launch) {D : va_G} {q : Nat → ClassId} {ad : Nat → Nat} {κ : KS} {τ : TAU} (sz : Nat) (ρ : Nat) (xa xb xc hd th : Int32) (hst : stepAt q ad κ τ ρ 4 xa xb xc) (hs : okStep 4 xa xb xc)(hN : nnOp κ 4 xa xb xc) : Met l yX2_reckon wsX2_reckon (rmz 3 78) (va_Pc [.ref (ad 4), .ref (ad ρ)] (rPre D q (wX q ad κ τ) sz)) (va_Qi (fun (r : Int32) (u : KS) => (r, u) = doR κ hd th 4 xa xb xc) (fun (u : KS) tt => rPo D (rA (wX q ad κ τ) sz) (wX q ad u τ) tt) (rA (wX q ad κ τ) sz)) 0 0 (rA (wX q ad κ τ) sz) := by
  have hi0 : vp_in xa 8 := hs.1
  have hi1 : vp_in xb 8 := hs.2.1
  have hi2 : vp_in xc 8 := hs.2.2
  refine r_start (cc := cX2_reckon) (maxL := 2) (ret := (some .int)) (by decide) rfl (Nat.le_of_ble_eq_true rfl) ?_
  intro p e s m below meth c ls hC hr hlk hnm hsz hw hl
  have hx := hC.1
  have hb := hC.2.1
  have hl : lv_has ls 2 [(0, .ref (ad 4)), (1, .ref (ad ρ))] := hl
  refine lv_aload_n hx hb dX2_reckon_0 rfl (lv_at hl 1 rfl) ?_
  refine r_get hC hw rk5 in_X2_reckon_5 ρ hst.1 hst.2 0 (by decide) lk_X2_reckon_15 (v := .int 4) rfl dX2_reckon_1 ?_
  refine lv_bipush (v := 14) hx hb dX2_reckon_4 (by decide) ?_
  refine lv_icmp_gt (tgt := 17) hx hb dX2_reckon_6 (by decide) (fun c_ => absurd c_ (by decide)) (fun _ => ?_)
  refine lv_aload_n hx hb dX2_reckon_9 rfl (lv_at hl 0 rfl) ?_
  refine lv_aload_n hx hb dX2_reckon_10 rfl (lv_at hl 1 rfl) ?_
  refine r_ki hw (r_runV (rest := []) hC hw 4 (c_X2_reckonWhole_4 l _ ρ xa xb xc hd th hst hs) rk2 (wXl 4 (by decide)) wXc4 1 gX2_reckon_X2_reckonWhole rfl rfl rfl (by decide +kernel) ⟨Nat.le_of_ble_eq_true rfl, Nat.le_of_ble_eq_true rfl⟩ rfl hl.1 rfl (Nat.le_of_ble_eq_true rfl) dX2_reckon_11 ⟨Nat.le_of_ble_eq_true rfl, Nat.le_of_ble_eq_true rfl⟩) (fun r_2 u_3 H locs h_1 hw => ?_)
  refine lv_goto (tgt := 22) hx hb dX2_reckon_14 (by decide) ?_
  exact r_iret hC hr hlk hw u_3 rfl h_1 (Nat.le_of_ble_eq_true rfl) (Nat.le_of_ble_eq_true rfl) dX2_reckon_22

set_option maxHeartbeats 4000000 in
set_option maxRecDepth 100000 in
theorem c_X2_reckon_5 (l : Launch) {D : va_G} {q : Nat → ClassId} {ad : Nat → Nat} {κ : KS} {τ : TAU} (sz : Nat) (ρ : Nat) (xa xb xc hd th : Int32) (hst : stepAt q ad κ τ ρ 5 xa xb xc) (hs : okStep 5 xa xb xc)(hN : nnOp κ 5 xa xb xc) : Met l yX2_reckon wsX2_reckon (rmz 3 78) (va_Pc [.ref (ad 4), .ref (ad ρ)] (rPre D q (wX q ad κ τ) sz)) (va_Qi (fun (r : Int32) (u : KS) => (r, u) = doR κ hd th 5 xa xb xc) (fun (u : KS) tt => rPo D (rA (wX q ad κ τ) sz) (wX q ad u τ) tt) (rA (wX q ad κ τ) sz)) 0 0 (rA (wX q ad κ τ) sz) := by
  have hi0 : vp_in xa 8 := hs.1
  have hi1 : vp_in xb 8 := hs.2.1
  have hi2 : vp_in xc 8 := hs.2.2
  refine r_start (cc := cX2_reckon) (maxL := 2) (ret := (some .int)) (by decide) rfl (Nat.le_of_ble_eq_true rfl) ?_
  intro p e s m below meth c ls hC hr hlk hnm hsz hw hl
  have hx := hC.1
  have hb := hC.2.1
  have hl : lv_has ls 2 [(0, .ref (ad 4)), (1, .ref (ad ρ))] := hl
  refine lv_aload_n hx hb dX2_reckon_0 rfl (lv_at hl 1 rfl) ?_
  refine r_get hC hw rk5 in_X2_reckon_5 ρ hst.1 hst.2 0 (by decide) lk_X2_reckon_15 (v := .int 5) rfl dX2_reckon_1 ?_
  refine lv_bipush (v := 14) hx hb dX2_reckon_4 (by decide) ?_
  refine lv_icmp_gt (tgt := 17) hx hb dX2_reckon_6 (by decide) (fun c_ => absurd c_ (by decide)) (fun _ => ?_)
  refine lv_aload_n hx hb dX2_reckon_9 rfl (lv_at hl 0 rfl) ?_
  refine lv_aload_n hx hb dX2_reckon_10 rfl (lv_at hl 1 rfl) ?_
  refine r_ki hw (r_runV (rest := []) hC hw 4 (c_X2_reckonWhole_5 l _ ρ xa xb xc hd th hst hs) rk2 (wXl 4 (by decide)) wXc4 1 gX2_reckon_X2_reckonWhole rfl rfl rfl (by decide +kernel) ⟨Nat.le_of_ble_eq_true rfl, Nat.le_of_ble_eq_true rfl⟩ rfl hl.1 rfl (Nat.le_of_ble_eq_true rfl) dX2_reckon_11 ⟨Nat.le_of_ble_eq_true rfl, Nat.le_of_ble_eq_true rfl⟩) (fun r_2 u_3 H locs h_1 hw => ?_)
  refine lv_goto (tgt := 22) hx hb dX2_reckon_14 (by decide) ?_
  exact r_iret hC hr hlk hw u_3 rfl h_1 (Nat.le_of_ble_eq_true rfl) (Nat.le_of_ble_eq_true rfl) dX2_reckon_22

set_option maxHeartbeats 4000000 in
set_option maxRecDepth 100000 in
theorem c_X2_reckon_6 (l : Launch) {D : va_G} {q : Nat → ClassId} {ad : Nat → Nat} {κ : KS} {τ : TAU} (sz : Nat) (ρ : Nat) (xa xb xc hd th : Int32) (hst : stepAt q ad κ τ ρ 6 xa xb xc) (hs : okStep 6 xa xb xc)(hN : nnOp κ 6 xa xb xc) : Met l yX2_reckon wsX2_reckon (rmz 3 78) (va_Pc [.ref (ad 4), .ref (ad ρ)] (rPre D q (wX q ad κ τ) sz)) (va_Qi (fun (r : Int32) (u : KS) => (r, u) = doR κ hd th 6 xa xb xc) (fun (u : KS) tt => rPo D (rA (wX q ad κ τ) sz) (wX q ad u τ) tt) (rA (wX q ad κ τ) sz)) 0 0 (rA (wX q ad κ τ) sz) := by
  have hi0 : vp_in xa 8 := hs.1
  have hi1 : vp_in xb 8 := hs.2.1
  have hi2 : vp_in xc 8 := hs.2.2
  refine r_start (cc := cX2_reckon) (maxL := 2) (ret := (some .int)) (by decide) rfl (Nat.le_of_ble_eq_true rfl) ?_
  intro p e s m below meth c ls hC hr hlk hnm hsz hw hl
  have hx := hC.1
  have hb := hC.2.1
  have hl : lv_has ls 2 [(0, .ref (ad 4)), (1, .ref (ad ρ))] := hl
  refine lv_aload_n hx hb dX2_reckon_0 rfl (lv_at hl 1 rfl) ?_
  refine r_get hC hw rk5 in_X2_reckon_5 ρ hst.1 hst.2 0 (by decide) lk_X2_reckon_15 (v := .int 6) rfl dX2_reckon_1 ?_
  refine lv_bipush (v := 14) hx hb dX2_reckon_4 (by decide) ?_
  refine lv_icmp_gt (tgt := 17) hx hb dX2_reckon_6 (by decide) (fun c_ => absurd c_ (by decide)) (fun _ => ?_)
  refine lv_aload_n hx hb dX2_reckon_9 rfl (lv_at hl 0 rfl) ?_
  refine lv_aload_n hx hb dX2_reckon_10 rfl (lv_at hl 1 rfl) ?_
  refine r_ki hw (r_runV (rest := []) hC hw 4 (c_X2_reckonWhole_6 l _ ρ xa xb xc hd th hst hs) rk2 (wXl 4 (by decide)) wXc4 1 gX2_reckon_X2_reckonWhole rfl rfl rfl (by decide +kernel) ⟨Nat.le_of_ble_eq_true rfl, Nat.le_of_ble_eq_true rfl⟩ rfl hl.1 rfl (Nat.le_of_ble_eq_true rfl) dX2_reckon_11 ⟨Nat.le_of_ble_eq_true rfl, Nat.le_of_ble_eq_true rfl⟩) (fun r_2 u_3 H locs h_1 hw => ?_)
  refine lv_goto (tgt := 22) hx hb dX2_reckon_14 (by decide) ?_
  exact r_iret hC hr hlk hw u_3 rfl h_1 (Nat.le_of_ble_eq_true rfl) (Nat.le_of_ble_eq_true rfl) dX2_reckon_22

set_option maxHeartbeats 4000000 in
set_option maxRecDepth 100000 in
theorem c_X2_reckon_7 (l : Launch) {D : va_G} {q : Nat → ClassId} {ad : Nat → Nat} {κ : KS} {τ : TAU} (sz : Nat) (ρ : Nat) (xa xb xc hd th : Int32) (hst : stepAt q ad κ τ ρ 7 xa xb xc) (hs : okStep 7 xa xb xc)(hN : nnOp κ 7 xa xb xc) : Met l yX2_reckon wsX2_reckon (rmz 3 78) (va_Pc [.ref (ad 4), .ref (ad ρ)] (rPre D q (wX q ad κ τ) sz)) (va_Qi (fun (r : Int32) (u : KS) => (r, u) = doR κ hd th 7 xa xb xc) (fun (u : KS) tt => rPo D (rA (wX q ad κ τ) sz) (wX q ad u τ) tt) (rA (wX q ad κ τ) sz)) 0 0 (rA (wX q ad κ τ) sz) := by
  have hi0 : vp_in xa 8 := hs.1
  have hi1 : vp_in xb 8 := hs.2.1
  have hi2 : vp_in xc 8 := hs.2.2
  refine r_start (cc := cX2_reckon) (maxL := 2) (ret := (some .int)) (by decide) rfl (Nat.le_of_ble_eq_true rfl) ?_
  intro p e s m below meth c ls hC hr hlk hnm hsz hw hl
  have hx := hC.1
  have hb := hC.2.1
  have hl : lv_has ls 2 [(0, .ref (ad 4)), (1, .ref (ad ρ))] := hl
  refine lv_aload_n hx hb dX2_reckon_0 rfl (lv_at hl 1 rfl) ?_
  refine r_get hC hw rk5 in_X2_reckon_5 ρ hst.1 hst.2 0 (by decide) lk_X2_reckon_15 (v := .int 7) rfl dX2_reckon_1 ?_
  refine lv_bipush (v := 14) hx hb dX2_reckon_4 (by decide) ?_
  refine lv_icmp_gt (tgt := 17) hx hb dX2_reckon_6 (by decide) (fun c_ => absurd c_ (by decide)) (fun _ => ?_)
  refine lv_aload_n hx hb dX2_reckon_9 rfl (lv_at hl 0 rfl) ?_
  refine lv_aload_n hx hb dX2_reckon_10 rfl (lv_at hl 1 rfl) ?_
  refine r_ki hw (r_runV (rest := []) hC hw 4 (c_X2_reckonWhole_7 l _ ρ xa xb xc hd th hst hs) rk2 (wXl 4 (by decide)) wXc4 1 gX2_reckon_X2_reckonWhole rfl rfl rfl (by decide +kernel) ⟨Nat.le_of_ble_eq_true rfl, Nat.le_of_ble_eq_true rfl⟩ rfl hl.1 rfl (Nat.le_of_ble_eq_true rfl) dX2_reckon_11 ⟨Nat.le_of_ble_eq_true rfl, Nat.le_of_ble_eq_true rfl⟩) (fun r_2 u_3 H locs h_1 hw => ?_)
  refine lv_goto (tgt := 22) hx hb dX2_reckon_14 (by decide) ?_
  exact r_iret hC hr hlk hw u_3 rfl h_1 (Nat.le_of_ble_eq_true rfl) (Nat.le_of_ble_eq_true rfl) dX2_reckon_22

set_option maxHeartbeats 4000000 in
set_option maxRecDepth 100000 in
theorem c_X2_reckon_8 (l : Launch) {D : va_G} {q : Nat → ClassId} {ad : Nat → Nat} {κ : KS} {τ : TAU} (sz : Nat) (ρ : Nat) (xa xb xc hd th : Int32) (hst : stepAt q ad κ τ ρ 8 xa xb xc) (hs : okStep 8 xa xb xc)(hN : nnOp κ 8 xa xb xc) : Met l yX2_reckon wsX2_reckon (rmz 3 78) (va_Pc [.ref (ad 4), .ref (ad ρ)] (rPre D q (wX q ad κ τ) sz)) (va_Qi (fun (r : Int32) (u : KS) => (r, u) = doR κ hd th 8 xa xb xc) (fun (u : KS) tt => rPo D (rA (wX q ad κ τ) sz) (wX q ad u τ) tt) (rA (wX q ad κ τ) sz)) 0 0 (rA (wX q ad κ τ) sz) := by
  have hi0 : vp_in xa 8 := hs.1
  have hi1 : vp_in xb 8 := hs.2.1
  have hi2 : vp_in xc 8 := hs.2.2
  refine r_start (cc := cX2_reckon) (maxL := 2) (ret := (some .int)) (by decide) rfl (Nat.le_of_ble_eq_true rfl) ?_
  intro p e s m below meth c ls hC hr hlk hnm hsz hw hl
  have hx := hC.1
  have hb := hC.2.1
  have hl : lv_has ls 2 [(0, .ref (ad 4)), (1, .ref (ad ρ))] := hl
  refine lv_aload_n hx hb dX2_reckon_0 rfl (lv_at hl 1 rfl) ?_
  refine r_get hC hw rk5 in_X2_reckon_5 ρ hst.1 hst.2 0 (by decide) lk_X2_reckon_15 (v := .int 8) rfl dX2_reckon_1 ?_
  refine lv_bipush (v := 14) hx hb dX2_reckon_4 (by decide) ?_
  refine lv_icmp_gt (tgt := 17) hx hb dX2_reckon_6 (by decide) (fun c_ => absurd c_ (by decide)) (fun _ => ?_)
  refine lv_aload_n hx hb dX2_reckon_9 rfl (lv_at hl 0 rfl) ?_
  refine lv_aload_n hx hb dX2_reckon_10 rfl (lv_at hl 1 rfl) ?_
  refine r_ki hw (r_runV (rest := []) hC hw 4 (c_X2_reckonWhole_8 l _ ρ xa xb xc hd th hst hs) rk2 (wXl 4 (by decide)) wXc4 1 gX2_reckon_X2_reckonWhole rfl rfl rfl (by decide +kernel) ⟨Nat.le_of_ble_eq_true rfl, Nat.le_of_ble_eq_true rfl⟩ rfl hl.1 rfl (Nat.le_of_ble_eq_true rfl) dX2_reckon_11 ⟨Nat.le_of_ble_eq_true rfl, Nat.le_of_ble_eq_true rfl⟩) (fun r_2 u_3 H locs h_1 hw => ?_)
  refine lv_goto (tgt := 22) hx hb dX2_reckon_14 (by decide) ?_
  exact r_iret hC hr hlk hw u_3 rfl h_1 (Nat.le_of_ble_eq_true rfl) (Nat.le_of_ble_eq_true rfl) dX2_reckon_22

set_option maxHeartbeats 4000000 in
set_option maxRecDepth 100000 in
theorem c_X2_reckon_9 (l : Launch) {D : va_G} {q : Nat → ClassId} {ad : Nat → Nat} {κ : KS} {τ : TAU} (sz : Nat) (ρ : Nat) (xa xb xc hd th : Int32) (hst : stepAt q ad κ τ ρ 9 xa xb xc) (hs : okStep 9 xa xb xc)(hN : nnOp κ 9 xa xb xc) : Met l yX2_reckon wsX2_reckon (rmz 3 78) (va_Pc [.ref (ad 4), .ref (ad ρ)] (rPre D q (wX q ad κ τ) sz)) (va_Qi (fun (r : Int32) (u : KS) => (r, u) = doR κ hd th 9 xa xb xc) (fun (u : KS) tt => rPo D (rA (wX q ad κ τ) sz) (wX q ad u τ) tt) (rA (wX q ad κ τ) sz)) 0 0 (rA (wX q ad κ τ) sz) := by
  have hi0 : vp_in xa 4 := hs.1
  have hi1 : vp_in xb 4 := hs.2.1
  have hi2 : vp_in xc 4 := hs.2.2
  refine r_start (cc := cX2_reckon) (maxL := 2) (ret := (some .int)) (by decide) rfl (Nat.le_of_ble_eq_true rfl) ?_
  intro p e s m below meth c ls hC hr hlk hnm hsz hw hl
  have hx := hC.1
  have hb := hC.2.1
  have hl : lv_has ls 2 [(0, .ref (ad 4)), (1, .ref (ad ρ))] := hl
  refine lv_aload_n hx hb dX2_reckon_0 rfl (lv_at hl 1 rfl) ?_
  refine r_get hC hw rk5 in_X2_reckon_5 ρ hst.1 hst.2 0 (by decide) lk_X2_reckon_15 (v := .int 9) rfl dX2_reckon_1 ?_
  refine lv_bipush (v := 14) hx hb dX2_reckon_4 (by decide) ?_
  refine lv_icmp_gt (tgt := 17) hx hb dX2_reckon_6 (by decide) (fun c_ => absurd c_ (by decide)) (fun _ => ?_)
  refine lv_aload_n hx hb dX2_reckon_9 rfl (lv_at hl 0 rfl) ?_
  refine lv_aload_n hx hb dX2_reckon_10 rfl (lv_at hl 1 rfl) ?_
  refine r_ki hw (r_runV (rest := []) hC hw 4 (c_X2_reckonWhole_9 l _ ρ xa xb xc hd th hst hs) rk2 (wXl 4 (by decide)) wXc4 1 gX2_reckon_X2_reckonWhole rfl rfl rfl (by decide +kernel) ⟨Nat.le_of_ble_eq_true rfl, Nat.le_of_ble_eq_true rfl⟩ rfl hl.1 rfl (Nat.le_of_ble_eq_true rfl) dX2_reckon_11 ⟨Nat.le_of_ble_eq_true rfl, Nat.le_of_ble_eq_true rfl⟩) (fun r_2 u_3 H locs h_1 hw => ?_)
  refine lv_goto (tgt := 22) hx hb dX2_reckon_14 (by decide) ?_
  exact r_iret hC hr hlk hw u_3 rfl h_1 (Nat.le_of_ble_eq_true rfl) (Nat.le_of_ble_eq_true rfl) dX2_reckon_22

set_option maxHeartbeats 4000000 in
set_option maxRecDepth 100000 in
theorem c_X2_reckon_10 (l : Launch) {D : va_G} {q : Nat → ClassId} {ad : Nat → Nat} {κ : KS} {τ : TAU} (sz : Nat) (ρ : Nat) (xa xb xc hd th : Int32) (hst : stepAt q ad κ τ ρ 10 xa xb xc) (hs : okStep 10 xa xb xc)(hN : nnOp κ 10 xa xb xc) : Met l yX2_reckon wsX2_reckon (rmz 3 78) (va_Pc [.ref (ad 4), .ref (ad ρ)] (rPre D q (wX q ad κ τ) sz)) (va_Qi (fun (r : Int32) (u : KS) => (r, u) = doR κ hd th 10 xa xb xc) (fun (u : KS) tt => rPo D (rA (wX q ad κ τ) sz) (wX q ad u τ) tt) (rA (wX q ad κ τ) sz)) 0 0 (rA (wX q ad κ τ) sz) := by
  have hi0 : vp_in xa 4 := hs.1
  have hi1 : vp_in xb 4 := hs.2.1
  have hi2 : vp_in xc 4 := hs.2.2
  refine r_start (cc := cX2_reckon) (maxL := 2) (ret := (some .int)) (by decide) rfl (Nat.le_of_ble_eq_true rfl) ?_
  intro p e s m below meth c ls hC hr hlk hnm hsz hw hl
  have hx := hC.1
  have hb := hC.2.1
  have hl : lv_has ls 2 [(0, .ref (ad 4)), (1, .ref (ad ρ))] := hl
  refine lv_aload_n hx hb dX2_reckon_0 rfl (lv_at hl 1 rfl) ?_
  refine r_get hC hw rk5 in_X2_reckon_5 ρ hst.1 hst.2 0 (by decide) lk_X2_reckon_15 (v := .int 10) rfl dX2_reckon_1 ?_
  refine lv_bipush (v := 14) hx hb dX2_reckon_4 (by decide) ?_
  refine lv_icmp_gt (tgt := 17) hx hb dX2_reckon_6 (by decide) (fun c_ => absurd c_ (by decide)) (fun _ => ?_)
  refine lv_aload_n hx hb dX2_reckon_9 rfl (lv_at hl 0 rfl) ?_
  refine lv_aload_n hx hb dX2_reckon_10 rfl (lv_at hl 1 rfl) ?_
  refine r_ki hw (r_runV (rest := []) hC hw 4 (c_X2_reckonWhole_10 l _ ρ xa xb xc hd th hst hs) rk2 (wXl 4 (by decide)) wXc4 1 gX2_reckon_X2_reckonWhole rfl rfl rfl (by decide +kernel) ⟨Nat.le_of_ble_eq_true rfl, Nat.le_of_ble_eq_true rfl⟩ rfl hl.1 rfl (Nat.le_of_ble_eq_true rfl) dX2_reckon_11 ⟨Nat.le_of_ble_eq_true rfl, Nat.le_of_ble_eq_true rfl⟩) (fun r_2 u_3 H locs h_1 hw => ?_)
  refine lv_goto (tgt := 22) hx hb dX2_reckon_14 (by decide) ?_
  exact r_iret hC hr hlk hw u_3 rfl h_1 (Nat.le_of_ble_eq_true rfl) (Nat.le_of_ble_eq_true rfl) dX2_reckon_22

set_option maxHeartbeats 4000000 in
set_option maxRecDepth 100000 in
theorem c_X2_reckon_11 (l : Launch) {D : va_G} {q : Nat → ClassId} {ad : Nat → Nat} {κ : KS} {τ : TAU} (sz : Nat) (ρ : Nat) (xa xb xc hd th : Int32) (hst : stepAt q ad κ τ ρ 11 xa xb xc) (hs : okStep 11 xa xb xc)(hN : nnOp κ 11 xa xb xc) : Met l yX2_reckon wsX2_reckon (rmz 3 78) (va_Pc [.ref (ad 4), .ref (ad ρ)] (rPre D q (wX q ad κ τ) sz)) (va_Qi (fun (r : Int32) (u : KS) => (r, u) = doR κ hd th 11 xa xb xc) (fun (u : KS) tt => rPo D (rA (wX q ad κ τ) sz) (wX q ad u τ) tt) (rA (wX q ad κ τ) sz)) 0 0 (rA (wX q ad κ τ) sz) := by
  have hi0 : vp_in xa 4 := hs.1
  have hi1 : vp_in xb 4 := hs.2.1
  have hi2 : vp_in xc 4 := hs.2.2
  refine r_start (cc := cX2_reckon) (maxL := 2) (ret := (some .int)) (by decide) rfl (Nat.le_of_ble_eq_true rfl) ?_
  intro p e s m below meth c ls hC hr hlk hnm hsz hw hl
  have hx := hC.1
  have hb := hC.2.1
  have hl : lv_has ls 2 [(0, .ref (ad 4)), (1, .ref (ad ρ))] := hl
  refine lv_aload_n hx hb dX2_reckon_0 rfl (lv_at hl 1 rfl) ?_
  refine r_get hC hw rk5 in_X2_reckon_5 ρ hst.1 hst.2 0 (by decide) lk_X2_reckon_15 (v := .int 11) rfl dX2_reckon_1 ?_
  refine lv_bipush (v := 14) hx hb dX2_reckon_4 (by decide) ?_
  refine lv_icmp_gt (tgt := 17) hx hb dX2_reckon_6 (by decide) (fun c_ => absurd c_ (by decide)) (fun _ => ?_)
  refine lv_aload_n hx hb dX2_reckon_9 rfl (lv_at hl 0 rfl) ?_
  refine lv_aload_n hx hb dX2_reckon_10 rfl (lv_at hl 1 rfl) ?_
  refine r_ki hw (r_runV (rest := []) hC hw 4 (c_X2_reckonWhole_11 l _ ρ xa xb xc hd th hst hs) rk2 (wXl 4 (by decide)) wXc4 1 gX2_reckon_X2_reckonWhole rfl rfl rfl (by decide +kernel) ⟨Nat.le_of_ble_eq_true rfl, Nat.le_of_ble_eq_true rfl⟩ rfl hl.1 rfl (Nat.le_of_ble_eq_true rfl) dX2_reckon_11 ⟨Nat.le_of_ble_eq_true rfl, Nat.le_of_ble_eq_true rfl⟩) (fun r_2 u_3 H locs h_1 hw => ?_)
  refine lv_goto (tgt := 22) hx hb dX2_reckon_14 (by decide) ?_
  exact r_iret hC hr hlk hw u_3 rfl h_1 (Nat.le_of_ble_eq_true rfl) (Nat.le_of_ble_eq_true rfl) dX2_reckon_22

set_option maxHeartbeats 4000000 in
set_option maxRecDepth 100000 in
theorem c_X2_reckon_12 (l : Launch) {D : va_G} {q : Nat → ClassId} {ad : Nat → Nat} {κ : KS} {τ : TAU} (sz : Nat) (ρ : Nat) (xa xb xc hd th : Int32) (hst : stepAt q ad κ τ ρ 12 xa xb xc) (hs : okStep 12 xa xb xc)(hN : nnOp κ 12 xa xb xc) : Met l yX2_reckon wsX2_reckon (rmz 3 78) (va_Pc [.ref (ad 4), .ref (ad ρ)] (rPre D q (wX q ad κ τ) sz)) (va_Qi (fun (r : Int32) (u : KS) => (r, u) = doR κ hd th 12 xa xb xc) (fun (u : KS) tt => rPo D (rA (wX q ad κ τ) sz) (wX q ad u τ) tt) (rA (wX q ad κ τ) sz)) 0 0 (rA (wX q ad κ τ) sz) := by
  have hi0 : vp_in xa 4 := hs.1
  have hi1 : vp_in xb 4 := hs.2.1
  have hi2 : vp_in xc 4 := hs.2.2
  refine r_start (cc := cX2_reckon) (maxL := 2) (ret := (some .int)) (by decide) rfl (Nat.le_of_ble_eq_true rfl) ?_
  intro p e s m below meth c ls hC hr hlk hnm hsz hw hl
  have hx := hC.1
  have hb := hC.2.1
  have hl : lv_has ls 2 [(0, .ref (ad 4)), (1, .ref (ad ρ))] := hl
  refine lv_aload_n hx hb dX2_reckon_0 rfl (lv_at hl 1 rfl) ?_
  refine r_get hC hw rk5 in_X2_reckon_5 ρ hst.1 hst.2 0 (by decide) lk_X2_reckon_15 (v := .int 12) rfl dX2_reckon_1 ?_
  refine lv_bipush (v := 14) hx hb dX2_reckon_4 (by decide) ?_
  refine lv_icmp_gt (tgt := 17) hx hb dX2_reckon_6 (by decide) (fun c_ => absurd c_ (by decide)) (fun _ => ?_)
  refine lv_aload_n hx hb dX2_reckon_9 rfl (lv_at hl 0 rfl) ?_
  refine lv_aload_n hx hb dX2_reckon_10 rfl (lv_at hl 1 rfl) ?_
  refine r_ki hw (r_runV (rest := []) hC hw 4 (c_X2_reckonWhole_12 l _ ρ xa xb xc hd th hst hs) rk2 (wXl 4 (by decide)) wXc4 1 gX2_reckon_X2_reckonWhole rfl rfl rfl (by decide +kernel) ⟨Nat.le_of_ble_eq_true rfl, Nat.le_of_ble_eq_true rfl⟩ rfl hl.1 rfl (Nat.le_of_ble_eq_true rfl) dX2_reckon_11 ⟨Nat.le_of_ble_eq_true rfl, Nat.le_of_ble_eq_true rfl⟩) (fun r_2 u_3 H locs h_1 hw => ?_)
  refine lv_goto (tgt := 22) hx hb dX2_reckon_14 (by decide) ?_
  exact r_iret hC hr hlk hw u_3 rfl h_1 (Nat.le_of_ble_eq_true rfl) (Nat.le_of_ble_eq_true rfl) dX2_reckon_22

set_option maxHeartbeats 4000000 in
set_option maxRecDepth 100000 in
theorem c_X2_reckon_13 (l : Launch) {D : va_G} {q : Nat → ClassId} {ad : Nat → Nat} {κ : KS} {τ : TAU} (sz : Nat) (ρ : Nat) (xa xb xc hd th : Int32) (hst : stepAt q ad κ τ ρ 13 xa xb xc) (hs : okStep 13 xa xb xc)(hN : nnOp κ 13 xa xb xc) : Met l yX2_reckon wsX2_reckon (rmz 3 78) (va_Pc [.ref (ad 4), .ref (ad ρ)] (rPre D q (wX q ad κ τ) sz)) (va_Qi (fun (r : Int32) (u : KS) => (r, u) = doR κ hd th 13 xa xb xc) (fun (u : KS) tt => rPo D (rA (wX q ad κ τ) sz) (wX q ad u τ) tt) (rA (wX q ad κ τ) sz)) 0 0 (rA (wX q ad κ τ) sz) := by
  have hi0 : vp_in xa 4 := hs.1
  have hi1 : vp_in xb 8 := hs.2.1
  refine r_start (cc := cX2_reckon) (maxL := 2) (ret := (some .int)) (by decide) rfl (Nat.le_of_ble_eq_true rfl) ?_
  intro p e s m below meth c ls hC hr hlk hnm hsz hw hl
  have hx := hC.1
  have hb := hC.2.1
  have hl : lv_has ls 2 [(0, .ref (ad 4)), (1, .ref (ad ρ))] := hl
  refine lv_aload_n hx hb dX2_reckon_0 rfl (lv_at hl 1 rfl) ?_
  refine r_get hC hw rk5 in_X2_reckon_5 ρ hst.1 hst.2 0 (by decide) lk_X2_reckon_15 (v := .int 13) rfl dX2_reckon_1 ?_
  refine lv_bipush (v := 14) hx hb dX2_reckon_4 (by decide) ?_
  refine lv_icmp_gt (tgt := 17) hx hb dX2_reckon_6 (by decide) (fun c_ => absurd c_ (by decide)) (fun _ => ?_)
  refine lv_aload_n hx hb dX2_reckon_9 rfl (lv_at hl 0 rfl) ?_
  refine lv_aload_n hx hb dX2_reckon_10 rfl (lv_at hl 1 rfl) ?_
  refine r_ki hw (r_runV (rest := []) hC hw 4 (c_X2_reckonWhole_13 l _ ρ xa xb xc hd th hst hs) rk2 (wXl 4 (by decide)) wXc4 1 gX2_reckon_X2_reckonWhole rfl rfl rfl (by decide +kernel) ⟨Nat.le_of_ble_eq_true rfl, Nat.le_of_ble_eq_true rfl⟩ rfl hl.1 rfl (Nat.le_of_ble_eq_true rfl) dX2_reckon_11 ⟨Nat.le_of_ble_eq_true rfl, Nat.le_of_ble_eq_true rfl⟩) (fun r_2 u_3 H locs h_1 hw => ?_)
  refine lv_goto (tgt := 22) hx hb dX2_reckon_14 (by decide) ?_
  exact r_iret hC hr hlk hw u_3 rfl h_1 (Nat.le_of_ble_eq_true rfl) (Nat.le_of_ble_eq_true rfl) dX2_reckon_22

set_option maxHeartbeats 4000000 in
set_option maxRecDepth 100000 in
theorem c_X2_reckon_14 (l : Launch) {D : va_G} {q : Nat → ClassId} {ad : Nat → Nat} {κ : KS} {τ : TAU} (sz : Nat) (ρ : Nat) (xa xb xc hd th : Int32) (hst : stepAt q ad κ τ ρ 14 xa xb xc) (hs : okStep 14 xa xb xc)(hN : nnOp κ 14 xa xb xc) : Met l yX2_reckon wsX2_reckon (rmz 3 78) (va_Pc [.ref (ad 4), .ref (ad ρ)] (rPre D q (wX q ad κ τ) sz)) (va_Qi (fun (r : Int32) (u : KS) => (r, u) = doR κ hd th 14 xa xb xc) (fun (u : KS) tt => rPo D (rA (wX q ad κ τ) sz) (wX q ad u τ) tt) (rA (wX q ad κ τ) sz)) 0 0 (rA (wX q ad κ τ) sz) := by
  have hi0 : vp_in xa 8 := hs.1
  have hi1 : vp_in xb 4 := hs.2.1
  refine r_start (cc := cX2_reckon) (maxL := 2) (ret := (some .int)) (by decide) rfl (Nat.le_of_ble_eq_true rfl) ?_
  intro p e s m below meth c ls hC hr hlk hnm hsz hw hl
  have hx := hC.1
  have hb := hC.2.1
  have hl : lv_has ls 2 [(0, .ref (ad 4)), (1, .ref (ad ρ))] := hl
  refine lv_aload_n hx hb dX2_reckon_0 rfl (lv_at hl 1 rfl) ?_
  refine r_get hC hw rk5 in_X2_reckon_5 ρ hst.1 hst.2 0 (by decide) lk_X2_reckon_15 (v := .int 14) rfl dX2_reckon_1 ?_
  refine lv_bipush (v := 14) hx hb dX2_reckon_4 (by decide) ?_
  refine lv_icmp_gt (tgt := 17) hx hb dX2_reckon_6 (by decide) (fun c_ => absurd c_ (by decide)) (fun _ => ?_)
  refine lv_aload_n hx hb dX2_reckon_9 rfl (lv_at hl 0 rfl) ?_
  refine lv_aload_n hx hb dX2_reckon_10 rfl (lv_at hl 1 rfl) ?_
  refine r_ki hw (r_runV (rest := []) hC hw 4 (c_X2_reckonWhole_14 l _ ρ xa xb xc hd th hst hs) rk2 (wXl 4 (by decide)) wXc4 1 gX2_reckon_X2_reckonWhole rfl rfl rfl (by decide +kernel) ⟨Nat.le_of_ble_eq_true rfl, Nat.le_of_ble_eq_true rfl⟩ rfl hl.1 rfl (Nat.le_of_ble_eq_true rfl) dX2_reckon_11 ⟨Nat.le_of_ble_eq_true rfl, Nat.le_of_ble_eq_true rfl⟩) (fun r_2 u_3 H locs h_1 hw => ?_)
  refine lv_goto (tgt := 22) hx hb dX2_reckon_14 (by decide) ?_
  exact r_iret hC hr hlk hw u_3 rfl h_1 (Nat.le_of_ble_eq_true rfl) (Nat.le_of_ble_eq_true rfl) dX2_reckon_22

set_option maxHeartbeats 4000000 in
set_option maxRecDepth 100000 in
theorem c_X2_reckon_15 (l : Launch) {D : va_G} {q : Nat → ClassId} {ad : Nat → Nat} {κ : KS} {τ : TAU} (sz : Nat) (ρ : Nat) (xa xb xc hd th : Int32) (hst : stepAt q ad κ τ ρ 15 xa xb xc) (hs : okStep 15 xa xb xc)(hN : nnOp κ 15 xa xb xc) : Met l yX2_reckon wsX2_reckon (rmz 3 78) (va_Pc [.ref (ad 4), .ref (ad ρ)] (rPre D q (wX q ad κ τ) sz)) (va_Qi (fun (r : Int32) (u : KS) => (r, u) = doR κ hd th 15 xa xb xc) (fun (u : KS) tt => rPo D (rA (wX q ad κ τ) sz) (wX q ad u τ) tt) (rA (wX q ad κ τ) sz)) 0 0 (rA (wX q ad κ τ) sz) := by
  have hi0 : vp_in xa 4 := hs.1
  have hi1 : vp_in xb 4 := hs.2.1
  refine r_start (cc := cX2_reckon) (maxL := 2) (ret := (some .int)) (by decide) rfl (Nat.le_of_ble_eq_true rfl) ?_
  intro p e s m below meth c ls hC hr hlk hnm hsz hw hl
  have hx := hC.1
  have hb := hC.2.1
  have hl : lv_has ls 2 [(0, .ref (ad 4)), (1, .ref (ad ρ))] := hl
  refine lv_aload_n hx hb dX2_reckon_0 rfl (lv_at hl 1 rfl) ?_
  refine r_get hC hw rk5 in_X2_reckon_5 ρ hst.1 hst.2 0 (by decide) lk_X2_reckon_15 (v := .int 15) rfl dX2_reckon_1 ?_
  refine lv_bipush (v := 14) hx hb dX2_reckon_4 (by decide) ?_
  refine lv_icmp_gt (tgt := 17) hx hb dX2_reckon_6 (by decide) (fun _ => ?_) (fun c_ => absurd (by decide) c_)
  refine lv_aload_n hx hb dX2_reckon_17 rfl (lv_at hl 0 rfl) ?_
  refine lv_aload_n hx hb dX2_reckon_18 rfl (lv_at hl 1 rfl) ?_
  refine r_ki hw (r_runV (rest := []) hC hw 4 (c_X2_reckonBroken_15 l _ ρ xa xb xc hd th hst hs hN) rk2 (wXl 4 (by decide)) wXc4 1 gX2_reckon_X2_reckonBroken rfl rfl rfl (by decide +kernel) ⟨Nat.le_of_ble_eq_true rfl, Nat.le_of_ble_eq_true rfl⟩ rfl hl.1 rfl (Nat.le_of_ble_eq_true rfl) dX2_reckon_19 ⟨Nat.le_of_ble_eq_true rfl, Nat.le_of_ble_eq_true rfl⟩) (fun r_2 u_3 H locs h_1 hw => ?_)
  exact r_iret hC hr hlk hw u_3 rfl h_1 (Nat.le_of_ble_eq_true rfl) (Nat.le_of_ble_eq_true rfl) dX2_reckon_22

set_option maxHeartbeats 4000000 in
set_option maxRecDepth 100000 in
theorem c_X2_reckon_16 (l : Launch) {D : va_G} {q : Nat → ClassId} {ad : Nat → Nat} {κ : KS} {τ : TAU} (sz : Nat) (ρ : Nat) (xa xb xc hd th : Int32) (hst : stepAt q ad κ τ ρ 16 xa xb xc) (hs : okStep 16 xa xb xc)(hN : nnOp κ 16 xa xb xc) : Met l yX2_reckon wsX2_reckon (rmz 3 78) (va_Pc [.ref (ad 4), .ref (ad ρ)] (rPre D q (wX q ad κ τ) sz)) (va_Qi (fun (r : Int32) (u : KS) => (r, u) = doR κ hd th 16 xa xb xc) (fun (u : KS) tt => rPo D (rA (wX q ad κ τ) sz) (wX q ad u τ) tt) (rA (wX q ad κ τ) sz)) 0 0 (rA (wX q ad κ τ) sz) := by
  have hi0 : vp_in xa 4 := hs.1
  have hi1 : vp_in xb 4 := hs.2.1
  refine r_start (cc := cX2_reckon) (maxL := 2) (ret := (some .int)) (by decide) rfl (Nat.le_of_ble_eq_true rfl) ?_
  intro p e s m below meth c ls hC hr hlk hnm hsz hw hl
  have hx := hC.1
  have hb := hC.2.1
  have hl : lv_has ls 2 [(0, .ref (ad 4)), (1, .ref (ad ρ))] := hl
  refine lv_aload_n hx hb dX2_reckon_0 rfl (lv_at hl 1 rfl) ?_
  refine r_get hC hw rk5 in_X2_reckon_5 ρ hst.1 hst.2 0 (by decide) lk_X2_reckon_15 (v := .int 16) rfl dX2_reckon_1 ?_
  refine lv_bipush (v := 14) hx hb dX2_reckon_4 (by decide) ?_
  refine lv_icmp_gt (tgt := 17) hx hb dX2_reckon_6 (by decide) (fun _ => ?_) (fun c_ => absurd (by decide) c_)
  refine lv_aload_n hx hb dX2_reckon_17 rfl (lv_at hl 0 rfl) ?_
  refine lv_aload_n hx hb dX2_reckon_18 rfl (lv_at hl 1 rfl) ?_
  refine r_ki hw (r_runV (rest := []) hC hw 4 (c_X2_reckonBroken_16 l _ ρ xa xb xc hd th hst hs hN) rk2 (wXl 4 (by decide)) wXc4 1 gX2_reckon_X2_reckonBroken rfl rfl rfl (by decide +kernel) ⟨Nat.le_of_ble_eq_true rfl, Nat.le_of_ble_eq_true rfl⟩ rfl hl.1 rfl (Nat.le_of_ble_eq_true rfl) dX2_reckon_19 ⟨Nat.le_of_ble_eq_true rfl, Nat.le_of_ble_eq_true rfl⟩) (fun r_2 u_3 H locs h_1 hw => ?_)
  exact r_iret hC hr hlk hw u_3 rfl h_1 (Nat.le_of_ble_eq_true rfl) (Nat.le_of_ble_eq_true rfl) dX2_reckon_22

set_option maxHeartbeats 4000000 in
set_option maxRecDepth 100000 in
theorem c_X2_reckon_17 (l : Launch) {D : va_G} {q : Nat → ClassId} {ad : Nat → Nat} {κ : KS} {τ : TAU} (sz : Nat) (ρ : Nat) (xa xb xc hd th : Int32) (hst : stepAt q ad κ τ ρ 17 xa xb xc) (hs : okStep 17 xa xb xc)(hN : nnOp κ 17 xa xb xc) : Met l yX2_reckon wsX2_reckon (rmz 3 78) (va_Pc [.ref (ad 4), .ref (ad ρ)] (rPre D q (wX q ad κ τ) sz)) (va_Qi (fun (r : Int32) (u : KS) => (r, u) = doR κ hd th 17 xa xb xc) (fun (u : KS) tt => rPo D (rA (wX q ad κ τ) sz) (wX q ad u τ) tt) (rA (wX q ad κ τ) sz)) 0 0 (rA (wX q ad κ τ) sz) := by
  have hi0 : vp_in xa 4 := hs.1
  have hi1 : vp_in xb 4 := hs.2.1
  refine r_start (cc := cX2_reckon) (maxL := 2) (ret := (some .int)) (by decide) rfl (Nat.le_of_ble_eq_true rfl) ?_
  intro p e s m below meth c ls hC hr hlk hnm hsz hw hl
  have hx := hC.1
  have hb := hC.2.1
  have hl : lv_has ls 2 [(0, .ref (ad 4)), (1, .ref (ad ρ))] := hl
  refine lv_aload_n hx hb dX2_reckon_0 rfl (lv_at hl 1 rfl) ?_
  refine r_get hC hw rk5 in_X2_reckon_5 ρ hst.1 hst.2 0 (by decide) lk_X2_reckon_15 (v := .int 17) rfl dX2_reckon_1 ?_
  refine lv_bipush (v := 14) hx hb dX2_reckon_4 (by decide) ?_
  refine lv_icmp_gt (tgt := 17) hx hb dX2_reckon_6 (by decide) (fun _ => ?_) (fun c_ => absurd (by decide) c_)
  refine lv_aload_n hx hb dX2_reckon_17 rfl (lv_at hl 0 rfl) ?_
  refine lv_aload_n hx hb dX2_reckon_18 rfl (lv_at hl 1 rfl) ?_
  refine r_ki hw (r_runV (rest := []) hC hw 4 (c_X2_reckonBroken_17 l _ ρ xa xb xc hd th hst hs hN) rk2 (wXl 4 (by decide)) wXc4 1 gX2_reckon_X2_reckonBroken rfl rfl rfl (by decide +kernel) ⟨Nat.le_of_ble_eq_true rfl, Nat.le_of_ble_eq_true rfl⟩ rfl hl.1 rfl (Nat.le_of_ble_eq_true rfl) dX2_reckon_19 ⟨Nat.le_of_ble_eq_true rfl, Nat.le_of_ble_eq_true rfl⟩) (fun r_2 u_3 H locs h_1 hw => ?_)
  exact r_iret hC hr hlk hw u_3 rfl h_1 (Nat.le_of_ble_eq_true rfl) (Nat.le_of_ble_eq_true rfl) dX2_reckon_22

set_option maxHeartbeats 4000000 in
set_option maxRecDepth 100000 in
theorem c_X2_reckon_18 (l : Launch) {D : va_G} {q : Nat → ClassId} {ad : Nat → Nat} {κ : KS} {τ : TAU} (sz : Nat) (ρ : Nat) (xa xb xc hd th : Int32) (hst : stepAt q ad κ τ ρ 18 xa xb xc) (hs : okStep 18 xa xb xc)(hN : nnOp κ 18 xa xb xc) : Met l yX2_reckon wsX2_reckon (rmz 3 78) (va_Pc [.ref (ad 4), .ref (ad ρ)] (rPre D q (wX q ad κ τ) sz)) (va_Qi (fun (r : Int32) (u : KS) => (r, u) = doR κ hd th 18 xa xb xc) (fun (u : KS) tt => rPo D (rA (wX q ad κ τ) sz) (wX q ad u τ) tt) (rA (wX q ad κ τ) sz)) 0 0 (rA (wX q ad κ τ) sz) := by
  have hi0 : vp_in xa 8 := hs.1
  have hi1 : vp_in xb 4 := hs.2.1
  refine r_start (cc := cX2_reckon) (maxL := 2) (ret := (some .int)) (by decide) rfl (Nat.le_of_ble_eq_true rfl) ?_
  intro p e s m below meth c ls hC hr hlk hnm hsz hw hl
  have hx := hC.1
  have hb := hC.2.1
  have hl : lv_has ls 2 [(0, .ref (ad 4)), (1, .ref (ad ρ))] := hl
  refine lv_aload_n hx hb dX2_reckon_0 rfl (lv_at hl 1 rfl) ?_
  refine r_get hC hw rk5 in_X2_reckon_5 ρ hst.1 hst.2 0 (by decide) lk_X2_reckon_15 (v := .int 18) rfl dX2_reckon_1 ?_
  refine lv_bipush (v := 14) hx hb dX2_reckon_4 (by decide) ?_
  refine lv_icmp_gt (tgt := 17) hx hb dX2_reckon_6 (by decide) (fun _ => ?_) (fun c_ => absurd (by decide) c_)
  refine lv_aload_n hx hb dX2_reckon_17 rfl (lv_at hl 0 rfl) ?_
  refine lv_aload_n hx hb dX2_reckon_18 rfl (lv_at hl 1 rfl) ?_
  refine r_ki hw (r_runV (rest := []) hC hw 4 (c_X2_reckonBroken_18 l _ ρ xa xb xc hd th hst hs hN) rk2 (wXl 4 (by decide)) wXc4 1 gX2_reckon_X2_reckonBroken rfl rfl rfl (by decide +kernel) ⟨Nat.le_of_ble_eq_true rfl, Nat.le_of_ble_eq_true rfl⟩ rfl hl.1 rfl (Nat.le_of_ble_eq_true rfl) dX2_reckon_19 ⟨Nat.le_of_ble_eq_true rfl, Nat.le_of_ble_eq_true rfl⟩) (fun r_2 u_3 H locs h_1 hw => ?_)
  exact r_iret hC hr hlk hw u_3 rfl h_1 (Nat.le_of_ble_eq_true rfl) (Nat.le_of_ble_eq_true rfl) dX2_reckon_22

set_option maxHeartbeats 4000000 in
set_option maxRecDepth 100000 in
theorem c_X2_reckon_19 (l : Launch) {D : va_G} {q : Nat → ClassId} {ad : Nat → Nat} {κ : KS} {τ : TAU} (sz : Nat) (ρ : Nat) (xa xb xc hd th : Int32) (hst : stepAt q ad κ τ ρ 19 xa xb xc) (hs : okStep 19 xa xb xc)(hN : nnOp κ 19 xa xb xc) : Met l yX2_reckon wsX2_reckon (rmz 3 78) (va_Pc [.ref (ad 4), .ref (ad ρ)] (rPre D q (wX q ad κ τ) sz)) (va_Qi (fun (r : Int32) (u : KS) => (r, u) = doR κ hd th 19 xa xb xc) (fun (u : KS) tt => rPo D (rA (wX q ad κ τ) sz) (wX q ad u τ) tt) (rA (wX q ad κ τ) sz)) 0 0 (rA (wX q ad κ τ) sz) := by
  have hi0 : vp_in xa 4 := hs.1
  have hi1 : vp_in xb 4 := hs.2.1
  refine r_start (cc := cX2_reckon) (maxL := 2) (ret := (some .int)) (by decide) rfl (Nat.le_of_ble_eq_true rfl) ?_
  intro p e s m below meth c ls hC hr hlk hnm hsz hw hl
  have hx := hC.1
  have hb := hC.2.1
  have hl : lv_has ls 2 [(0, .ref (ad 4)), (1, .ref (ad ρ))] := hl
  refine lv_aload_n hx hb dX2_reckon_0 rfl (lv_at hl 1 rfl) ?_
  refine r_get hC hw rk5 in_X2_reckon_5 ρ hst.1 hst.2 0 (by decide) lk_X2_reckon_15 (v := .int 19) rfl dX2_reckon_1 ?_
  refine lv_bipush (v := 14) hx hb dX2_reckon_4 (by decide) ?_
  refine lv_icmp_gt (tgt := 17) hx hb dX2_reckon_6 (by decide) (fun _ => ?_) (fun c_ => absurd (by decide) c_)
  refine lv_aload_n hx hb dX2_reckon_17 rfl (lv_at hl 0 rfl) ?_
  refine lv_aload_n hx hb dX2_reckon_18 rfl (lv_at hl 1 rfl) ?_
  refine r_ki hw (r_runV (rest := []) hC hw 4 (c_X2_reckonBroken_19 l _ ρ xa xb xc hd th hst hs hN) rk2 (wXl 4 (by decide)) wXc4 1 gX2_reckon_X2_reckonBroken rfl rfl rfl (by decide +kernel) ⟨Nat.le_of_ble_eq_true rfl, Nat.le_of_ble_eq_true rfl⟩ rfl hl.1 rfl (Nat.le_of_ble_eq_true rfl) dX2_reckon_19 ⟨Nat.le_of_ble_eq_true rfl, Nat.le_of_ble_eq_true rfl⟩) (fun r_2 u_3 H locs h_1 hw => ?_)
  exact r_iret hC hr hlk hw u_3 rfl h_1 (Nat.le_of_ble_eq_true rfl) (Nat.le_of_ble_eq_true rfl) dX2_reckon_22

set_option maxHeartbeats 4000000 in
set_option maxRecDepth 100000 in
theorem c_X2_reckon_20 (l : Launch) {D : va_G} {q : Nat → ClassId} {ad : Nat → Nat} {κ : KS} {τ : TAU} (sz : Nat) (ρ : Nat) (xa xb xc hd th : Int32) (hst : stepAt q ad κ τ ρ 20 xa xb xc) (hs : okStep 20 xa xb xc)(hN : nnOp κ 20 xa xb xc) : Met l yX2_reckon wsX2_reckon (rmz 3 78) (va_Pc [.ref (ad 4), .ref (ad ρ)] (rPre D q (wX q ad κ τ) sz)) (va_Qi (fun (r : Int32) (u : KS) => (r, u) = doR κ hd th 20 xa xb xc) (fun (u : KS) tt => rPo D (rA (wX q ad κ τ) sz) (wX q ad u τ) tt) (rA (wX q ad κ τ) sz)) 0 0 (rA (wX q ad κ τ) sz) := by
  have hi0 : vp_in xa 4 := hs.1
  have hi1 : vp_in xb 4 := hs.2.1
  refine r_start (cc := cX2_reckon) (maxL := 2) (ret := (some .int)) (by decide) rfl (Nat.le_of_ble_eq_true rfl) ?_
  intro p e s m below meth c ls hC hr hlk hnm hsz hw hl
  have hx := hC.1
  have hb := hC.2.1
  have hl : lv_has ls 2 [(0, .ref (ad 4)), (1, .ref (ad ρ))] := hl
  refine lv_aload_n hx hb dX2_reckon_0 rfl (lv_at hl 1 rfl) ?_
  refine r_get hC hw rk5 in_X2_reckon_5 ρ hst.1 hst.2 0 (by decide) lk_X2_reckon_15 (v := .int 20) rfl dX2_reckon_1 ?_
  refine lv_bipush (v := 14) hx hb dX2_reckon_4 (by decide) ?_
  refine lv_icmp_gt (tgt := 17) hx hb dX2_reckon_6 (by decide) (fun _ => ?_) (fun c_ => absurd (by decide) c_)
  refine lv_aload_n hx hb dX2_reckon_17 rfl (lv_at hl 0 rfl) ?_
  refine lv_aload_n hx hb dX2_reckon_18 rfl (lv_at hl 1 rfl) ?_
  refine r_ki hw (r_runV (rest := []) hC hw 4 (c_X2_reckonBroken_20 l _ ρ xa xb xc hd th hst hs hN) rk2 (wXl 4 (by decide)) wXc4 1 gX2_reckon_X2_reckonBroken rfl rfl rfl (by decide +kernel) ⟨Nat.le_of_ble_eq_true rfl, Nat.le_of_ble_eq_true rfl⟩ rfl hl.1 rfl (Nat.le_of_ble_eq_true rfl) dX2_reckon_19 ⟨Nat.le_of_ble_eq_true rfl, Nat.le_of_ble_eq_true rfl⟩) (fun r_2 u_3 H locs h_1 hw => ?_)
  exact r_iret hC hr hlk hw u_3 rfl h_1 (Nat.le_of_ble_eq_true rfl) (Nat.le_of_ble_eq_true rfl) dX2_reckon_22

set_option maxHeartbeats 4000000 in
set_option maxRecDepth 100000 in
theorem c_X2_reckon_21 (l : Launch) {D : va_G} {q : Nat → ClassId} {ad : Nat → Nat} {κ : KS} {τ : TAU} (sz : Nat) (ρ : Nat) (xa xb xc hd th : Int32) (hst : stepAt q ad κ τ ρ 21 xa xb xc) (hs : okStep 21 xa xb xc)(hN : nnOp κ 21 xa xb xc) : Met l yX2_reckon wsX2_reckon (rmz 3 78) (va_Pc [.ref (ad 4), .ref (ad ρ)] (rPre D q (wX q ad κ τ) sz)) (va_Qi (fun (r : Int32) (u : KS) => (r, u) = doR κ hd th 21 xa xb xc) (fun (u : KS) tt => rPo D (rA (wX q ad κ τ) sz) (wX q ad u τ) tt) (rA (wX q ad κ τ) sz)) 0 0 (rA (wX q ad κ τ) sz) := by
  have hi0 : vp_in xa 4 := hs.1
  have hi1 : vp_in xb 4 := hs.2.1
  refine r_start (cc := cX2_reckon) (maxL := 2) (ret := (some .int)) (by decide) rfl (Nat.le_of_ble_eq_true rfl) ?_
  intro p e s m below meth c ls hC hr hlk hnm hsz hw hl
  have hx := hC.1
  have hb := hC.2.1
  have hl : lv_has ls 2 [(0, .ref (ad 4)), (1, .ref (ad ρ))] := hl
  refine lv_aload_n hx hb dX2_reckon_0 rfl (lv_at hl 1 rfl) ?_
  refine r_get hC hw rk5 in_X2_reckon_5 ρ hst.1 hst.2 0 (by decide) lk_X2_reckon_15 (v := .int 21) rfl dX2_reckon_1 ?_
  refine lv_bipush (v := 14) hx hb dX2_reckon_4 (by decide) ?_
  refine lv_icmp_gt (tgt := 17) hx hb dX2_reckon_6 (by decide) (fun _ => ?_) (fun c_ => absurd (by decide) c_)
  refine lv_aload_n hx hb dX2_reckon_17 rfl (lv_at hl 0 rfl) ?_
  refine lv_aload_n hx hb dX2_reckon_18 rfl (lv_at hl 1 rfl) ?_
  refine r_ki hw (r_runV (rest := []) hC hw 4 (c_X2_reckonBroken_21 l _ ρ xa xb xc hd th hst hs hN) rk2 (wXl 4 (by decide)) wXc4 1 gX2_reckon_X2_reckonBroken rfl rfl rfl (by decide +kernel) ⟨Nat.le_of_ble_eq_true rfl, Nat.le_of_ble_eq_true rfl⟩ rfl hl.1 rfl (Nat.le_of_ble_eq_true rfl) dX2_reckon_19 ⟨Nat.le_of_ble_eq_true rfl, Nat.le_of_ble_eq_true rfl⟩) (fun r_2 u_3 H locs h_1 hw => ?_)
  exact r_iret hC hr hlk hw u_3 rfl h_1 (Nat.le_of_ble_eq_true rfl) (Nat.le_of_ble_eq_true rfl) dX2_reckon_22

set_option maxHeartbeats 4000000 in
set_option maxRecDepth 100000 in
theorem c_X2_reckon_22 (l : Launch) {D : va_G} {q : Nat → ClassId} {ad : Nat → Nat} {κ : KS} {τ : TAU} (sz : Nat) (ρ : Nat) (xa xb xc hd th : Int32) (hst : stepAt q ad κ τ ρ 22 xa xb xc) (hs : okStep 22 xa xb xc)(hN : nnOp κ 22 xa xb xc) : Met l yX2_reckon wsX2_reckon (rmz 3 78) (va_Pc [.ref (ad 4), .ref (ad ρ)] (rPre D q (wX q ad κ τ) sz)) (va_Qi (fun (r : Int32) (u : KS) => (r, u) = doR κ hd th 22 xa xb xc) (fun (u : KS) tt => rPo D (rA (wX q ad κ τ) sz) (wX q ad u τ) tt) (rA (wX q ad κ τ) sz)) 0 0 (rA (wX q ad κ τ) sz) := by
  have hi0 : vp_in xa 4 := hs.1
  have hi1 : vp_in xb 4 := hs.2.1
  refine r_start (cc := cX2_reckon) (maxL := 2) (ret := (some .int)) (by decide) rfl (Nat.le_of_ble_eq_true rfl) ?_
  intro p e s m below meth c ls hC hr hlk hnm hsz hw hl
  have hx := hC.1
  have hb := hC.2.1
  have hl : lv_has ls 2 [(0, .ref (ad 4)), (1, .ref (ad ρ))] := hl
  refine lv_aload_n hx hb dX2_reckon_0 rfl (lv_at hl 1 rfl) ?_
  refine r_get hC hw rk5 in_X2_reckon_5 ρ hst.1 hst.2 0 (by decide) lk_X2_reckon_15 (v := .int 22) rfl dX2_reckon_1 ?_
  refine lv_bipush (v := 14) hx hb dX2_reckon_4 (by decide) ?_
  refine lv_icmp_gt (tgt := 17) hx hb dX2_reckon_6 (by decide) (fun _ => ?_) (fun c_ => absurd (by decide) c_)
  refine lv_aload_n hx hb dX2_reckon_17 rfl (lv_at hl 0 rfl) ?_
  refine lv_aload_n hx hb dX2_reckon_18 rfl (lv_at hl 1 rfl) ?_
  refine r_ki hw (r_runV (rest := []) hC hw 4 (c_X2_reckonBroken_22 l _ ρ xa xb xc hd th hst hs hN) rk2 (wXl 4 (by decide)) wXc4 1 gX2_reckon_X2_reckonBroken rfl rfl rfl (by decide +kernel) ⟨Nat.le_of_ble_eq_true rfl, Nat.le_of_ble_eq_true rfl⟩ rfl hl.1 rfl (Nat.le_of_ble_eq_true rfl) dX2_reckon_19 ⟨Nat.le_of_ble_eq_true rfl, Nat.le_of_ble_eq_true rfl⟩) (fun r_2 u_3 H locs h_1 hw => ?_)
  exact r_iret hC hr hlk hw u_3 rfl h_1 (Nat.le_of_ble_eq_true rfl) (Nat.le_of_ble_eq_true rfl) dX2_reckon_22

set_option maxHeartbeats 4000000 in
set_option maxRecDepth 100000 in
theorem c_X2_reckon_25 (l : Launch) {D : va_G} {q : Nat → ClassId} {ad : Nat → Nat} {κ : KS} {τ : TAU} (sz : Nat) (ρ : Nat) (xa xb xc hd th : Int32) (hst : stepAt q ad κ τ ρ 25 xa xb xc) (hs : okStep 25 xa xb xc)(hN : nnOp κ 25 xa xb xc) : Met l yX2_reckon wsX2_reckon (rmz 3 78) (va_Pc [.ref (ad 4), .ref (ad ρ)] (rPre D q (wX q ad κ τ) sz)) (va_Qi (fun (r : Int32) (u : KS) => (r, u) = doR κ hd th 25 xa xb xc) (fun (u : KS) tt => rPo D (rA (wX q ad κ τ) sz) (wX q ad u τ) tt) (rA (wX q ad κ τ) sz)) 0 0 (rA (wX q ad κ τ) sz) := by
  have hi0 : vp_in xa 8 := hs.1
  have hi1 : vp_in xb 8 := hs.2.1
  have hi2 : vp_in xc 8 := hs.2.2
  refine r_start (cc := cX2_reckon) (maxL := 2) (ret := (some .int)) (by decide) rfl (Nat.le_of_ble_eq_true rfl) ?_
  intro p e s m below meth c ls hC hr hlk hnm hsz hw hl
  have hx := hC.1
  have hb := hC.2.1
  have hl : lv_has ls 2 [(0, .ref (ad 4)), (1, .ref (ad ρ))] := hl
  refine lv_aload_n hx hb dX2_reckon_0 rfl (lv_at hl 1 rfl) ?_
  refine r_get hC hw rk5 in_X2_reckon_5 ρ hst.1 hst.2 0 (by decide) lk_X2_reckon_15 (v := .int 25) rfl dX2_reckon_1 ?_
  refine lv_bipush (v := 14) hx hb dX2_reckon_4 (by decide) ?_
  refine lv_icmp_gt (tgt := 17) hx hb dX2_reckon_6 (by decide) (fun _ => ?_) (fun c_ => absurd (by decide) c_)
  refine lv_aload_n hx hb dX2_reckon_17 rfl (lv_at hl 0 rfl) ?_
  refine lv_aload_n hx hb dX2_reckon_18 rfl (lv_at hl 1 rfl) ?_
  refine r_ki hw (r_runV (rest := []) hC hw 4 (c_X2_reckonBroken_25 l _ ρ xa xb xc hd th hst hs hN) rk2 (wXl 4 (by decide)) wXc4 1 gX2_reckon_X2_reckonBroken rfl rfl rfl (by decide +kernel) ⟨Nat.le_of_ble_eq_true rfl, Nat.le_of_ble_eq_true rfl⟩ rfl hl.1 rfl (Nat.le_of_ble_eq_true rfl) dX2_reckon_19 ⟨Nat.le_of_ble_eq_true rfl, Nat.le_of_ble_eq_true rfl⟩) (fun r_2 u_3 H locs h_1 hw => ?_)
  exact r_iret hC hr hlk hw u_3 rfl h_1 (Nat.le_of_ble_eq_true rfl) (Nat.le_of_ble_eq_true rfl) dX2_reckon_22

set_option maxHeartbeats 4000000 in
set_option maxRecDepth 100000 in
theorem c_X2_reckon_26 (l : Launch) {D : va_G} {q : Nat → ClassId} {ad : Nat → Nat} {κ : KS} {τ : TAU} (sz : Nat) (ρ : Nat) (xa xb xc hd th : Int32) (hst : stepAt q ad κ τ ρ 26 xa xb xc) (hs : okStep 26 xa xb xc)(hN : nnOp κ 26 xa xb xc) : Met l yX2_reckon wsX2_reckon (rmz 3 78) (va_Pc [.ref (ad 4), .ref (ad ρ)] (rPre D q (wX q ad κ τ) sz)) (va_Qi (fun (r : Int32) (u : KS) => (r, u) = doR κ hd th 26 xa xb xc) (fun (u : KS) tt => rPo D (rA (wX q ad κ τ) sz) (wX q ad u τ) tt) (rA (wX q ad κ τ) sz)) 0 0 (rA (wX q ad κ τ) sz) := by
  have hi0 : vp_in xa 8 := hs.1
  have hi1 : vp_in xb 4 := hs.2.1
  have hi2 : vp_in xc 4 := hs.2.2
  refine r_start (cc := cX2_reckon) (maxL := 2) (ret := (some .int)) (by decide) rfl (Nat.le_of_ble_eq_true rfl) ?_
  intro p e s m below meth c ls hC hr hlk hnm hsz hw hl
  have hx := hC.1
  have hb := hC.2.1
  have hl : lv_has ls 2 [(0, .ref (ad 4)), (1, .ref (ad ρ))] := hl
  refine lv_aload_n hx hb dX2_reckon_0 rfl (lv_at hl 1 rfl) ?_
  refine r_get hC hw rk5 in_X2_reckon_5 ρ hst.1 hst.2 0 (by decide) lk_X2_reckon_15 (v := .int 26) rfl dX2_reckon_1 ?_
  refine lv_bipush (v := 14) hx hb dX2_reckon_4 (by decide) ?_
  refine lv_icmp_gt (tgt := 17) hx hb dX2_reckon_6 (by decide) (fun _ => ?_) (fun c_ => absurd (by decide) c_)
  refine lv_aload_n hx hb dX2_reckon_17 rfl (lv_at hl 0 rfl) ?_
  refine lv_aload_n hx hb dX2_reckon_18 rfl (lv_at hl 1 rfl) ?_
  refine r_ki hw (r_runV (rest := []) hC hw 4 (c_X2_reckonBroken_26 l _ ρ xa xb xc hd th hst hs hN) rk2 (wXl 4 (by decide)) wXc4 1 gX2_reckon_X2_reckonBroken rfl rfl rfl (by decide +kernel) ⟨Nat.le_of_ble_eq_true rfl, Nat.le_of_ble_eq_true rfl⟩ rfl hl.1 rfl (Nat.le_of_ble_eq_true rfl) dX2_reckon_19 ⟨Nat.le_of_ble_eq_true rfl, Nat.le_of_ble_eq_true rfl⟩) (fun r_2 u_3 H locs h_1 hw => ?_)
  exact r_iret hC hr hlk hw u_3 rfl h_1 (Nat.le_of_ble_eq_true rfl) (Nat.le_of_ble_eq_true rfl) dX2_reckon_22

